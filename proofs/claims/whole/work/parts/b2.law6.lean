set_option maxHeartbeats 4000000 in
set_option maxRecDepth 100000 in
theorem lg_write {l : Launch} (hl : l.stackTraces = false) {D : va_G} {nm : String} {d mc ms : Nat} {sh0 : s_S} {sz0 : Int} {Po : s_Po} {g : g_X} {k n : Nat} (X : Cx l D code "CiteForgeLaw" nm 8 ret d mc ms sh0 sz0 Po g) {hh : List (Nat × Nat × Nat × Nat)} (YY : y_C sh0 sz0 hh g) (hd0 : 100 ≤ d) (hk0 : k + 100 ≤ mc) (hn0 : n + 6000 ≤ ms) {sh : s_S} {M : s_M} {sz o : Int} {s : rnT} {hd : Int} {ns : Int} {O : Int → Int} {Q : Int → Int} {Z : Int → Int} {nr : Int} {t : List Int} {WR : Int → Int} {YR : Int → List Int} {vR : List Int} {nc : Int} {m : Int} {WC : Int → Int} {L : Int → Int} {S : s_M} {T : Int → List Int} {i : Int} {b N : Nat} {xs : Nat → Int32} (ZZ : z_C b N xs g) (hcw : cwd sh M sz o s hd ns O Q Z nr t WR YR vR nc m WC L) (hmq : mq sh M M (o + 247) S) (hcp : cpl S T s ns O Q Z t nc m WC L) (hok : opk O Q Z) (hq : sh (o + 276) = some (.inr (.long, 1))) (hsz : o + 277 ≤ sz) (hln : 0 ≤ s.2.2.1.1 ∧ s.2.2.1.1 ≤ 2000000000) (hi : 0 ≤ i ∧ i + 5 ≤ N) (hN : N ≤ 100000) (kont : ∀ (k' n' : Nat) (sh' : s_S) (M' : s_M) (sz' a' : Int), k' ≤ k + 49 → n' ≤ n + 4374 → 0 ≤ a' → a' ≤ s.2.2.1.1 + 80000 → LR sh' M' sz' o a' → Go g k' n' sh' M' sz' 1224 [(4, vi i), (3, vr (o + 276)), (2, vr (o + 247)), (1, vr o), (0, vr (b : Int))] []) : Go g k n sh M sz 132 [(4, vi i), (3, vr (o + 276)), (2, vr (o + 247)), (1, vr o), (0, vr (b : Int))] [] := by
  have hSr := scr_rng xs
  refine go_aload_n X d_Law_law_132 rfl rfl ?_
  refine go_aload_n X d_Law_law_133 rfl rfl ?_
  refine go_iload X d_Law_law_134 rfl ?_
  refine go_iconst (v := 1) X d_Law_law_136 ?_
  refine go_iadd X d_Law_law_137 ?_
  refine go_scr X ZZ (by omega) (by omega) d_Law_law_138 ?_
  refine go_i2l X d_Law_law_139 (by have := hSr (i + 1); omega) ?_
  refine go_bipush (v := 32) X d_Law_law_140 (by decide) ?_
  refine go_lshl (z := lsh_ (scr_ xs (i + 1)) 32) X d_Law_law_142 (Int64.ofInt_toInt _).symm ?_
  refine go_aload_n X d_Law_law_143 rfl rfl ?_
  refine go_iload X d_Law_law_144 rfl ?_
  refine go_iconst (v := 2) X d_Law_law_146 ?_
  refine go_iadd X d_Law_law_147 ?_
  refine go_scr X ZZ (by omega) (by omega) d_Law_law_148 ?_
  refine go_i2l X d_Law_law_149 (by have := hSr (i + 2); omega) ?_
  refine go_ldc2 (x := 4294967295) X w_kl_Law_72 (by decide) d_Law_law_150 ?_
  refine go_land (z := lan_ (scr_ xs (i + 2)) 4294967295) X d_Law_law_153 (Int64.ofInt_toInt _).symm ?_
  refine go_lor (z := lor_ (lsh_ (scr_ xs (i + 1)) 32) (lan_ (scr_ xs (i + 2)) 4294967295)) X d_Law_law_154 (Int64.ofInt_toInt _).symm ?_
  refine go_top (v' := vl (u64 (lor_ (lsh_ (scr_ xs (i + 1)) 32) (lan_ (scr_ xs (i + 2)) 4294967295)))) X (u64_vl _) ?_
  refine go_aload_n X d_Law_law_155 rfl rfl ?_
  refine go_iload X d_Law_law_156 rfl ?_
  refine go_iconst (v := 3) X d_Law_law_158 ?_
  refine go_iadd X d_Law_law_159 ?_
  refine go_scr X ZZ (by omega) (by omega) d_Law_law_160 ?_
  refine go_aload_n X d_Law_law_161 rfl rfl ?_
  refine go_callSW (r := []) (np := 4) X YY lw_write_c lw_ini (by decide +kernel) lw_write_l lw_write_s (hg_write l hl D hcw (u64_rng _) (hSr _) hq (by omega) (by omega)) rfl rfl (by omega) (by decide) (by omega) (by omega) (Nat.le_of_ble_eq_true rfl) d_Law_law_162 (fun v' sh1 M1 sz1 hp => ?_)
  obtain ⟨kd, vv, hd', hkd, hvv, hkr, e1, hsh, hzz, hval, hcw1, f1⟩ := hp
  subst e1
  show Go g (k + 1) (n + 6) sh1 M1 sz1 165 [(4, vi i), (3, vr (o + 276)), (2, vr (o + 247)), (1, vr o), (0, vr (b : Int))] [vi kd]
  have hmq1 : mq sh1 M1 M1 (o + 247) S := hmq.mvo (fun z h1 h2 => ⟨hsh z (by omega), f1 z (by show ¬ ((o ≤ z ∧ z ≤ o + 246) ∨ z = o + 276 ∨ sz ≤ z); omega)⟩)
  have hou1 : sh1 (o + 276) = some (.inr (.long, 1)) := (hsh _ (by omega)).trans hq
  refine go_istore (lv' := [(5, vi kd), (4, vi i), (3, vr (o + 276)), (2, vr (o + 247)), (1, vr o), (0, vr (b : Int))]) X d_Law_law_165 (by decide) rfl ?_
  refine go_aload_n X d_Law_law_167 rfl rfl ?_
  refine go_aload_n X d_Law_law_168 rfl rfl ?_
  refine go_iload X d_Law_law_169 rfl ?_
  refine go_iconst (v := 1) X d_Law_law_171 ?_
  refine go_iadd X d_Law_law_172 ?_
  refine go_scr X ZZ (by omega) (by omega) d_Law_law_173 ?_
  refine go_i2l X d_Law_law_174 (by have := hSr (i + 1); omega) ?_
  refine go_bipush (v := 32) X d_Law_law_175 (by decide) ?_
  refine go_lshl (z := lsh_ (scr_ xs (i + 1)) 32) X d_Law_law_177 (Int64.ofInt_toInt _).symm ?_
  refine go_aload_n X d_Law_law_178 rfl rfl ?_
  refine go_iload X d_Law_law_179 rfl ?_
  refine go_iconst (v := 2) X d_Law_law_181 ?_
  refine go_iadd X d_Law_law_182 ?_
  refine go_scr X ZZ (by omega) (by omega) d_Law_law_183 ?_
  refine go_i2l X d_Law_law_184 (by have := hSr (i + 2); omega) ?_
  refine go_ldc2 (x := 4294967295) X w_kl_Law_72 (by decide) d_Law_law_185 ?_
  refine go_land (z := lan_ (scr_ xs (i + 2)) 4294967295) X d_Law_law_188 (Int64.ofInt_toInt _).symm ?_
  refine go_lor (z := lor_ (lsh_ (scr_ xs (i + 1)) 32) (lan_ (scr_ xs (i + 2)) 4294967295)) X d_Law_law_189 (Int64.ofInt_toInt _).symm ?_
  refine go_aload_n X d_Law_law_190 rfl rfl ?_
  refine go_iload X d_Law_law_191 rfl ?_
  refine go_iconst (v := 3) X d_Law_law_193 ?_
  refine go_iadd X d_Law_law_194 ?_
  refine go_scr X ZZ (by omega) (by omega) d_Law_law_195 ?_
  obtain ⟨bb, S2, T2, eA, hth, hbv, hcp2⟩ := o_write (N := 100000) (by decide) hcp (x := lor_ (lsh_ (scr_ xs (i + 1)) 32) (lan_ (scr_ xs (i + 2)) 4294967295)) (n := scr_ xs (i + 3))
  refine go_cV (st2 := []) (r := []) X k_Law_79 (a_write l D hmq1 (lor_rng _ _) (hSr _) eA) hmq1.1.1 rfl rfl (by omega) (Nat.le_of_ble_eq_true rfl) d_Law_law_196 (by omega) (by omega) (fun v' sh' M2 sz2 hp => ?_)
  obtain ⟨e4, e5, e6, hbr, hmq2⟩ := hp
  subst e4
  rw [e5, e6]
  show Go g (k + 1) (n + 6) sh1 M2 sz1 199 [(5, vi kd), (4, vi i), (3, vr (o + 276)), (2, vr (o + 247)), (1, vr o), (0, vr (b : Int))] [vi bb]
  have hthr2 : M2 (o + 247) 0 = kd := (hmq2.s 0).trans (hth.trans hkd.symm)
  have hb2 : kd = 0 → bb = vv := fun q => (hbv (hkd.symm.trans q)).trans hvv.symm
  have hv2 : kd = 0 → M2 (o + 276) 0 = bb := fun q => by rw [hmq2.2.2.2 (o + 276) (by show ¬ (o + 247 ≤ o + 276 ∧ o + 276 ≤ o + 247 + 28); omega), hval q, ← hb2 q, wi32_id hbr]
  refine go_istore (lv' := [(6, vi bb), (5, vi kd), (4, vi i), (3, vr (o + 276)), (2, vr (o + 247)), (1, vr o), (0, vr (b : Int))]) X d_Law_law_199 (by decide) rfl ?_
  refine go_aload_n X d_Law_law_201 rfl rfl ?_
  refine go_cVf (st2 := [vi kd]) (r := []) X k_Law_80 (m_thrown l D hmq2.1.1 hthr2) hmq2.1.1 rfl rfl (by omega) (Nat.le_of_ble_eq_true rfl) d_Law_law_202 (by omega) (by omega) rfl ?_
  refine go_iload X d_Law_law_205 rfl ?_
  refine go_icmp_eq (tgt := 212) X d_Law_law_207 rfl (by omega) (by omega) (fun _ => ?_) (fun h9 => absurd (show kd = kd by omega) h9)
  refine go_iload X d_Law_law_212 rfl ?_
  refine go_if_ne (tgt := 229) X d_Law_law_214 rfl (by omega) (fun hq1 => ?_) (fun hq1 => ?_)
  · skip
    refine go_goto (tgt := 1224) X d_Law_law_229 rfl ?_
    refine go_lv (lv' := [(4, vi i), (3, vr (o + 276)), (2, vr (o + 247)), (1, vr o), (0, vr (b : Int))]) X [2, 3, 4, 5, 6] rfl ?_
    exact kont _ _ _ _ _ s.2.2.1.1 (by omega) (by omega) (by omega) (by omega) (LR.mk hcw1 hmq2 hcp2 hok hou1 (by omega) rfl)
  · skip
    have hv1 := hv2 hq1
    refine go_aload_n X d_Law_law_217 rfl rfl ?_
    refine go_iconst (v := 0) X d_Law_law_218 ?_
    refine go_lald X hou1 (by omega) (by omega) d_Law_law_219 ?_
    refine go_top (v' := vl bb) X (by rw [hv1]) ?_
    refine go_iload X d_Law_law_220 rfl ?_
    refine go_i2l X d_Law_law_222 (by omega) ?_
    refine go_lcmp X (by omega) (by omega) d_Law_law_223 ?_
    refine go_top (v' := vi 0) X (by rw [show bb = bb by omega, s_cmp_self]) ?_
    refine go_if_eq (tgt := 229) X d_Law_law_224 rfl (by omega) (fun _ => ?_) (fun h9 => absurd h9 (by decide))
    refine go_goto (tgt := 1224) X d_Law_law_229 rfl ?_
    refine go_lv (lv' := [(4, vi i), (3, vr (o + 276)), (2, vr (o + 247)), (1, vr o), (0, vr (b : Int))]) X [2, 3, 4, 5, 6] rfl ?_
    exact kont _ _ _ _ _ s.2.2.1.1 (by omega) (by omega) (by omega) (by omega) (LR.mk hcw1 hmq2 hcp2 hok hou1 (by omega) rfl)
set_option maxHeartbeats 4000000 in
set_option maxRecDepth 100000 in
theorem lg_erase {l : Launch} (hl : l.stackTraces = false) {D : va_G} {nm : String} {d mc ms : Nat} {sh0 : s_S} {sz0 : Int} {Po : s_Po} {g : g_X} {k n : Nat} (X : Cx l D code "CiteForgeLaw" nm 8 ret d mc ms sh0 sz0 Po g) {hh : List (Nat × Nat × Nat × Nat)} (YY : y_C sh0 sz0 hh g) (hd0 : 100 ≤ d) (hk0 : k + 100 ≤ mc) (hn0 : n + 6000 ≤ ms) {sh : s_S} {M : s_M} {sz o : Int} {s : rnT} {hd : Int} {ns : Int} {O : Int → Int} {Q : Int → Int} {Z : Int → Int} {nr : Int} {t : List Int} {WR : Int → Int} {YR : Int → List Int} {vR : List Int} {nc : Int} {m : Int} {WC : Int → Int} {L : Int → Int} {S : s_M} {T : Int → List Int} {i : Int} {b N : Nat} {xs : Nat → Int32} (ZZ : z_C b N xs g) (hcw : cwd sh M sz o s hd ns O Q Z nr t WR YR vR nc m WC L) (hmq : mq sh M M (o + 247) S) (hcp : cpl S T s ns O Q Z t nc m WC L) (hok : opk O Q Z) (hq : sh (o + 276) = some (.inr (.long, 1))) (hsz : o + 277 ≤ sz) (hln : 0 ≤ s.2.2.1.1 ∧ s.2.2.1.1 ≤ 2000000000) (hi : 0 ≤ i ∧ i + 5 ≤ N) (hN : N ≤ 100000) (kont : ∀ (k' n' : Nat) (sh' : s_S) (M' : s_M) (sz' a' : Int), k' ≤ k + 49 → n' ≤ n + 4374 → 0 ≤ a' → a' ≤ s.2.2.1.1 + 80000 → LR sh' M' sz' o a' → Go g k' n' sh' M' sz' 1224 [(4, vi i), (3, vr (o + 276)), (2, vr (o + 247)), (1, vr o), (0, vr (b : Int))] []) : Go g k n sh M sz 232 [(4, vi i), (3, vr (o + 276)), (2, vr (o + 247)), (1, vr o), (0, vr (b : Int))] [] := by
  have hSr := scr_rng xs
  refine go_aload_n X d_Law_law_232 rfl rfl ?_
  refine go_cV (st2 := []) (r := []) X k_Law_84 (g_erase l D hcw) hcw.1.1 rfl rfl (by omega) (Nat.le_of_ble_eq_true rfl) d_Law_law_233 (by omega) (by omega) (fun v' sh' M1 sz1 hp => ?_)
  obtain ⟨-, e1, e2, e3, hcw1, f1⟩ := hp
  obtain ⟨vv, hvv⟩ : ∃ vv : Int, vv = (t.length : Int) := ⟨_, rfl⟩
  rw [← hvv] at e1
  subst e1
  rw [e2, e3]
  show Go g k n sh M1 sz 236 [(4, vi i), (3, vr (o + 276)), (2, vr (o + 247)), (1, vr o), (0, vr (b : Int))] [vi vv]
  have hmq1 : mq sh M1 M1 (o + 247) S := hmq.mvo (fun z h1 h2 => ⟨rfl, f1 z (by show ¬ (o ≤ z ∧ z ≤ o + 246); omega)⟩)
  have hou1 := hq
  have hzz := Int.le_refl sz
  refine go_aload_n X d_Law_law_236 rfl rfl ?_
  obtain ⟨bb, S2, T2, eA, hth, hbv, hcp2⟩ := o_erase (N := 100000) hcp 
  refine go_cV (st2 := []) (r := [vi vv]) X k_Law_87 (a_erase l D hmq1  eA) hmq1.1.1 rfl rfl (by omega) (Nat.le_of_ble_eq_true rfl) d_Law_law_237 (by omega) (by omega) (fun v' sh' M2 sz2 hp => ?_)
  obtain ⟨e4, e5, e6, hbr, hmq2⟩ := hp
  subst e4
  rw [e5, e6]
  show Go g k n sh M2 sz 240 [(4, vi i), (3, vr (o + 276)), (2, vr (o + 247)), (1, vr o), (0, vr (b : Int))] [vi bb, vi vv]
  have hb1 : bb = vv := (hbv rfl).trans hvv.symm
  refine go_icmp_eq (tgt := 1224) X d_Law_law_240 rfl (by omega) (by omega) (fun _ => ?_) (fun h9 => absurd (show vv = bb by omega) h9)
  refine go_lv (lv' := [(4, vi i), (3, vr (o + 276)), (2, vr (o + 247)), (1, vr o), (0, vr (b : Int))]) X [0, 1, 2, 3, 4] rfl ?_
  exact kont _ _ _ _ _ s.2.2.1.1 (by omega) (by omega) (by omega) (by omega) (LR.mk hcw1 hmq2 hcp2 hok hou1 (by omega) rfl)
set_option maxHeartbeats 4000000 in
set_option maxRecDepth 100000 in
theorem lg_read {l : Launch} (hl : l.stackTraces = false) {D : va_G} {nm : String} {d mc ms : Nat} {sh0 : s_S} {sz0 : Int} {Po : s_Po} {g : g_X} {k n : Nat} (X : Cx l D code "CiteForgeLaw" nm 8 ret d mc ms sh0 sz0 Po g) {hh : List (Nat × Nat × Nat × Nat)} (YY : y_C sh0 sz0 hh g) (hd0 : 100 ≤ d) (hk0 : k + 100 ≤ mc) (hn0 : n + 6000 ≤ ms) {sh : s_S} {M : s_M} {sz o : Int} {s : rnT} {hd : Int} {ns : Int} {O : Int → Int} {Q : Int → Int} {Z : Int → Int} {nr : Int} {t : List Int} {WR : Int → Int} {YR : Int → List Int} {vR : List Int} {nc : Int} {m : Int} {WC : Int → Int} {L : Int → Int} {S : s_M} {T : Int → List Int} {i : Int} {b N : Nat} {xs : Nat → Int32} (ZZ : z_C b N xs g) (hcw : cwd sh M sz o s hd ns O Q Z nr t WR YR vR nc m WC L) (hmq : mq sh M M (o + 247) S) (hcp : cpl S T s ns O Q Z t nc m WC L) (hok : opk O Q Z) (hq : sh (o + 276) = some (.inr (.long, 1))) (hsz : o + 277 ≤ sz) (hln : 0 ≤ s.2.2.1.1 ∧ s.2.2.1.1 ≤ 2000000000) (hi : 0 ≤ i ∧ i + 5 ≤ N) (hN : N ≤ 100000) (kont : ∀ (k' n' : Nat) (sh' : s_S) (M' : s_M) (sz' a' : Int), k' ≤ k + 49 → n' ≤ n + 4374 → 0 ≤ a' → a' ≤ s.2.2.1.1 + 80000 → LR sh' M' sz' o a' → Go g k' n' sh' M' sz' 1224 [(4, vi i), (3, vr (o + 276)), (2, vr (o + 247)), (1, vr o), (0, vr (b : Int))] []) : Go g k n sh M sz 245 [(4, vi i), (3, vr (o + 276)), (2, vr (o + 247)), (1, vr o), (0, vr (b : Int))] [] := by
  have hSr := scr_rng xs
  refine go_aload_n X d_Law_law_245 rfl rfl ?_
  refine go_cV (st2 := []) (r := []) X k_Law_88 (g_read l D hcw) hcw.1.1 rfl rfl (by omega) (Nat.le_of_ble_eq_true rfl) d_Law_law_246 (by omega) (by omega) (fun v' sh' M1 sz1 hp => ?_)
  obtain ⟨V0, e1, e2, e3, hcw1, f1⟩ := hp
  obtain ⟨q0, hq0⟩ : ∃ q0 : rsS, q0 = rdl t (o + 157) ((320 : Int) - 0).toNat (((rset (rset (rset V0 5 0) 6 0) 7 0), WR, YR, vR, s.1.1), s.2.1.2, (0 : Int)) := ⟨_, rfl⟩
  rw [← hq0] at e1 hcw1
  obtain ⟨vv, hvv⟩ : ∃ vv : Int, vv = q0.2.2 := ⟨_, rfl⟩
  rw [← hvv] at e1
  subst e1
  rw [e2, e3]
  show Go g k n sh M1 sz 249 [(4, vi i), (3, vr (o + 276)), (2, vr (o + 247)), (1, vr o), (0, vr (b : Int))] [vi vv]
  have hmq1 : mq sh M1 M1 (o + 247) S := hmq.mvo (fun z h1 h2 => ⟨rfl, f1 z (by show ¬ (o ≤ z ∧ z ≤ o + 246); omega)⟩)
  have hou1 := hq
  have hzz := Int.le_refl sz
  refine go_aload_n X d_Law_law_249 rfl rfl ?_
  have hyr : ∀ k : Int, 0 ≤ k → k < 8 → (YR k).length ≤ 60 := fun k k0 k1 => (hcw.2.2.1.2.2.2.2.2.2.2.2.2.2.2.2.2.2.2.2.2.2.2.1 k k0 k1).2.len.1
  obtain ⟨bb, S2, T2, eA, hth, hbv, hcp2⟩ := o_read (N := 100000) (by decide) hcp hyr hq0
  refine go_cV (st2 := []) (r := [vi vv]) X k_Law_91 (a_read l D hmq1  eA) hmq1.1.1 rfl rfl (by omega) (Nat.le_of_ble_eq_true rfl) d_Law_law_250 (by omega) (by omega) (fun v' sh' M2 sz2 hp => ?_)
  obtain ⟨e4, e5, e6, hbr, hmq2⟩ := hp
  subst e4
  rw [e5, e6]
  show Go g k n sh M2 sz 253 [(4, vi i), (3, vr (o + 276)), (2, vr (o + 247)), (1, vr o), (0, vr (b : Int))] [vi bb, vi vv]
  have hb1 : bb = vv := (hbv rfl).trans hvv.symm
  refine go_icmp_eq (tgt := 1224) X d_Law_law_253 rfl (by omega) (by omega) (fun _ => ?_) (fun h9 => absurd (show vv = bb by omega) h9)
  refine go_lv (lv' := [(4, vi i), (3, vr (o + 276)), (2, vr (o + 247)), (1, vr o), (0, vr (b : Int))]) X [0, 1, 2, 3, 4] rfl ?_
  exact kont _ _ _ _ _ s.2.2.1.1 (by omega) (by omega) (by omega) (by omega) (LR.mk hcw1 hmq2 hcp2 hok hou1 (by omega) rfl)
set_option maxHeartbeats 4000000 in
set_option maxRecDepth 100000 in
theorem lg_cite {l : Launch} (hl : l.stackTraces = false) {D : va_G} {nm : String} {d mc ms : Nat} {sh0 : s_S} {sz0 : Int} {Po : s_Po} {g : g_X} {k n : Nat} (X : Cx l D code "CiteForgeLaw" nm 8 ret d mc ms sh0 sz0 Po g) {hh : List (Nat × Nat × Nat × Nat)} (YY : y_C sh0 sz0 hh g) (hd0 : 100 ≤ d) (hk0 : k + 100 ≤ mc) (hn0 : n + 6000 ≤ ms) {sh : s_S} {M : s_M} {sz o : Int} {s : rnT} {hd : Int} {ns : Int} {O : Int → Int} {Q : Int → Int} {Z : Int → Int} {nr : Int} {t : List Int} {WR : Int → Int} {YR : Int → List Int} {vR : List Int} {nc : Int} {m : Int} {WC : Int → Int} {L : Int → Int} {S : s_M} {T : Int → List Int} {i : Int} {b N : Nat} {xs : Nat → Int32} (ZZ : z_C b N xs g) (hcw : cwd sh M sz o s hd ns O Q Z nr t WR YR vR nc m WC L) (hmq : mq sh M M (o + 247) S) (hcp : cpl S T s ns O Q Z t nc m WC L) (hok : opk O Q Z) (hq : sh (o + 276) = some (.inr (.long, 1))) (hsz : o + 277 ≤ sz) (hln : 0 ≤ s.2.2.1.1 ∧ s.2.2.1.1 ≤ 2000000000) (hi : 0 ≤ i ∧ i + 5 ≤ N) (hN : N ≤ 100000) (kont : ∀ (k' n' : Nat) (sh' : s_S) (M' : s_M) (sz' a' : Int), k' ≤ k + 49 → n' ≤ n + 4374 → 0 ≤ a' → a' ≤ s.2.2.1.1 + 80000 → LR sh' M' sz' o a' → Go g k' n' sh' M' sz' 1224 [(4, vi i), (3, vr (o + 276)), (2, vr (o + 247)), (1, vr o), (0, vr (b : Int))] []) : Go g k n sh M sz 258 [(4, vi i), (3, vr (o + 276)), (2, vr (o + 247)), (1, vr o), (0, vr (b : Int))] [] := by
  have hSr := scr_rng xs
  refine go_aload_n X d_Law_law_258 rfl rfl ?_
  refine go_aload_n X d_Law_law_259 rfl rfl ?_
  refine go_iload X d_Law_law_260 rfl ?_
  refine go_iconst (v := 1) X d_Law_law_262 ?_
  refine go_iadd X d_Law_law_263 ?_
  refine go_scr X ZZ (by omega) (by omega) d_Law_law_264 ?_
  refine go_i2l X d_Law_law_265 (by have := hSr (i + 1); omega) ?_
  refine go_bipush (v := 32) X d_Law_law_266 (by decide) ?_
  refine go_lshl (z := lsh_ (scr_ xs (i + 1)) 32) X d_Law_law_268 (Int64.ofInt_toInt _).symm ?_
  refine go_aload_n X d_Law_law_269 rfl rfl ?_
  refine go_iload X d_Law_law_270 rfl ?_
  refine go_iconst (v := 2) X d_Law_law_272 ?_
  refine go_iadd X d_Law_law_273 ?_
  refine go_scr X ZZ (by omega) (by omega) d_Law_law_274 ?_
  refine go_i2l X d_Law_law_275 (by have := hSr (i + 2); omega) ?_
  refine go_ldc2 (x := 4294967295) X w_kl_Law_72 (by decide) d_Law_law_276 ?_
  refine go_land (z := lan_ (scr_ xs (i + 2)) 4294967295) X d_Law_law_279 (Int64.ofInt_toInt _).symm ?_
  refine go_lor (z := lor_ (lsh_ (scr_ xs (i + 1)) 32) (lan_ (scr_ xs (i + 2)) 4294967295)) X d_Law_law_280 (Int64.ofInt_toInt _).symm ?_
  refine go_top (v' := vl (u64 (lor_ (lsh_ (scr_ xs (i + 1)) 32) (lan_ (scr_ xs (i + 2)) 4294967295)))) X (u64_vl _) ?_
  refine go_aload_n X d_Law_law_281 rfl rfl ?_
  refine go_callSW (r := []) (np := 3) X YY lw_cite_c lw_ini (by decide +kernel) lw_cite_l lw_cite_s (hg_cite l hl D hcw (u64_rng _) hq (by omega) (by omega)) rfl rfl (by omega) (by decide) (by omega) (by omega) (Nat.le_of_ble_eq_true rfl) d_Law_law_282 (fun v' sh1 M1 sz1 hp => ?_)
  obtain ⟨kd, vv, hd', hkd, hvv, hkr, e1, hsh, hzz, hval, hcw1, f1⟩ := hp
  subst e1
  show Go g (k + 1) (n + 6) sh1 M1 sz1 285 [(4, vi i), (3, vr (o + 276)), (2, vr (o + 247)), (1, vr o), (0, vr (b : Int))] [vi kd]
  have hmq1 : mq sh1 M1 M1 (o + 247) S := hmq.mvo (fun z h1 h2 => ⟨hsh z (by omega), f1 z (by show ¬ ((o ≤ z ∧ z ≤ o + 246) ∨ z = o + 276 ∨ sz ≤ z); omega)⟩)
  have hou1 : sh1 (o + 276) = some (.inr (.long, 1)) := (hsh _ (by omega)).trans hq
  refine go_istore (lv' := [(5, vi kd), (4, vi i), (3, vr (o + 276)), (2, vr (o + 247)), (1, vr o), (0, vr (b : Int))]) X d_Law_law_285 (by decide) rfl ?_
  refine go_aload_n X d_Law_law_287 rfl rfl ?_
  refine go_aload_n X d_Law_law_288 rfl rfl ?_
  refine go_iload X d_Law_law_289 rfl ?_
  refine go_iconst (v := 1) X d_Law_law_291 ?_
  refine go_iadd X d_Law_law_292 ?_
  refine go_scr X ZZ (by omega) (by omega) d_Law_law_293 ?_
  refine go_i2l X d_Law_law_294 (by have := hSr (i + 1); omega) ?_
  refine go_bipush (v := 32) X d_Law_law_295 (by decide) ?_
  refine go_lshl (z := lsh_ (scr_ xs (i + 1)) 32) X d_Law_law_297 (Int64.ofInt_toInt _).symm ?_
  refine go_aload_n X d_Law_law_298 rfl rfl ?_
  refine go_iload X d_Law_law_299 rfl ?_
  refine go_iconst (v := 2) X d_Law_law_301 ?_
  refine go_iadd X d_Law_law_302 ?_
  refine go_scr X ZZ (by omega) (by omega) d_Law_law_303 ?_
  refine go_i2l X d_Law_law_304 (by have := hSr (i + 2); omega) ?_
  refine go_ldc2 (x := 4294967295) X w_kl_Law_72 (by decide) d_Law_law_305 ?_
  refine go_land (z := lan_ (scr_ xs (i + 2)) 4294967295) X d_Law_law_308 (Int64.ofInt_toInt _).symm ?_
  refine go_lor (z := lor_ (lsh_ (scr_ xs (i + 1)) 32) (lan_ (scr_ xs (i + 2)) 4294967295)) X d_Law_law_309 (Int64.ofInt_toInt _).symm ?_
  obtain ⟨bb, S2, T2, eA, hth, hbv, hcp2⟩ := o_cite (N := 100000) (by decide) hcp (x := lor_ (lsh_ (scr_ xs (i + 1)) 32) (lan_ (scr_ xs (i + 2)) 4294967295))
  refine go_cV (st2 := []) (r := []) X k_Law_95 (a_cite l D hmq1 (lor_rng _ _) eA) hmq1.1.1 rfl rfl (by omega) (Nat.le_of_ble_eq_true rfl) d_Law_law_310 (by omega) (by omega) (fun v' sh' M2 sz2 hp => ?_)
  obtain ⟨e4, e5, e6, hbr, hmq2⟩ := hp
  subst e4
  rw [e5, e6]
  show Go g (k + 1) (n + 6) sh1 M2 sz1 313 [(5, vi kd), (4, vi i), (3, vr (o + 276)), (2, vr (o + 247)), (1, vr o), (0, vr (b : Int))] [vi bb]
  have hthr2 : M2 (o + 247) 0 = kd := (hmq2.s 0).trans (hth.trans hkd.symm)
  have hb2 : kd = 0 → bb = vv := fun q => (hbv (hkd.symm.trans q)).trans hvv.symm
  have hv2 : kd = 0 → M2 (o + 276) 0 = bb := fun q => by rw [hmq2.2.2.2 (o + 276) (by show ¬ (o + 247 ≤ o + 276 ∧ o + 276 ≤ o + 247 + 28); omega), hval q, ← hb2 q]
  refine go_istore (lv' := [(6, vi bb), (5, vi kd), (4, vi i), (3, vr (o + 276)), (2, vr (o + 247)), (1, vr o), (0, vr (b : Int))]) X d_Law_law_313 (by decide) rfl ?_
  refine go_aload_n X d_Law_law_315 rfl rfl ?_
  refine go_cVf (st2 := [vi kd]) (r := []) X k_Law_80 (m_thrown l D hmq2.1.1 hthr2) hmq2.1.1 rfl rfl (by omega) (Nat.le_of_ble_eq_true rfl) d_Law_law_316 (by omega) (by omega) rfl ?_
  refine go_iload X d_Law_law_319 rfl ?_
  refine go_icmp_eq (tgt := 326) X d_Law_law_321 rfl (by omega) (by omega) (fun _ => ?_) (fun h9 => absurd (show kd = kd by omega) h9)
  refine go_iload X d_Law_law_326 rfl ?_
  refine go_if_ne (tgt := 350) X d_Law_law_328 rfl (by omega) (fun hq1 => ?_) (fun hq1 => ?_)
  · skip
    refine go_goto (tgt := 1224) X d_Law_law_350 rfl ?_
    refine go_lv (lv' := [(4, vi i), (3, vr (o + 276)), (2, vr (o + 247)), (1, vr o), (0, vr (b : Int))]) X [2, 3, 4, 5, 6] rfl ?_
    exact kont _ _ _ _ _ s.2.2.1.1 (by omega) (by omega) (by omega) (by omega) (LR.mk hcw1 hmq2 hcp2 hok hou1 (by omega) rfl)
  · skip
    have hv1 := hv2 hq1
    have hz9 : bb = 0 ∨ bb = 1 := by rw [hb2 hq1, hvv]; exact civl_rng _ _ _
    refine go_aload_n X d_Law_law_331 rfl rfl ?_
    refine go_iconst (v := 0) X d_Law_law_332 ?_
    refine go_lald X hou1 (by omega) (by omega) d_Law_law_333 ?_
    refine go_top (v' := vl bb) X (by rw [hv1]) ?_
    refine go_iload X d_Law_law_334 rfl ?_
    refine go_if_eq (tgt := 343) X d_Law_law_336 rfl (by omega) (fun hq2 => ?_) (fun hq2 => ?_)
    · skip
      refine go_lconst (x := 0) X d_Law_law_343 (by decide) ?_
      refine go_lcmp X (by omega) (by omega) d_Law_law_344 ?_
      refine go_top (v' := vi 0) X (by rw [show bb = 0 by omega, s_cmp_self]) ?_
      refine go_if_eq (tgt := 350) X d_Law_law_345 rfl (by omega) (fun _ => ?_) (fun h9 => absurd h9 (by decide))
      refine go_goto (tgt := 1224) X d_Law_law_350 rfl ?_
      refine go_lv (lv' := [(4, vi i), (3, vr (o + 276)), (2, vr (o + 247)), (1, vr o), (0, vr (b : Int))]) X [2, 3, 4, 5, 6] rfl ?_
      exact kont _ _ _ _ _ s.2.2.1.1 (by omega) (by omega) (by omega) (by omega) (LR.mk hcw1 hmq2 hcp2 hok hou1 (by omega) rfl)
    · skip
      refine go_lconst (x := 1) X d_Law_law_339 (by decide) ?_
      refine go_goto (tgt := 344) X d_Law_law_340 rfl ?_
      refine go_lcmp X (by omega) (by omega) d_Law_law_344 ?_
      refine go_top (v' := vi 0) X (by rw [show bb = 1 by omega, s_cmp_self]) ?_
      refine go_if_eq (tgt := 350) X d_Law_law_345 rfl (by omega) (fun _ => ?_) (fun h9 => absurd h9 (by decide))
      refine go_goto (tgt := 1224) X d_Law_law_350 rfl ?_
      refine go_lv (lv' := [(4, vi i), (3, vr (o + 276)), (2, vr (o + 247)), (1, vr o), (0, vr (b : Int))]) X [2, 3, 4, 5, 6] rfl ?_
      exact kont _ _ _ _ _ s.2.2.1.1 (by omega) (by omega) (by omega) (by omega) (LR.mk hcw1 hmq2 hcp2 hok hou1 (by omega) rfl)
set_option maxHeartbeats 4000000 in
set_option maxRecDepth 100000 in
theorem lg_forget {l : Launch} (hl : l.stackTraces = false) {D : va_G} {nm : String} {d mc ms : Nat} {sh0 : s_S} {sz0 : Int} {Po : s_Po} {g : g_X} {k n : Nat} (X : Cx l D code "CiteForgeLaw" nm 8 ret d mc ms sh0 sz0 Po g) {hh : List (Nat × Nat × Nat × Nat)} (YY : y_C sh0 sz0 hh g) (hd0 : 100 ≤ d) (hk0 : k + 100 ≤ mc) (hn0 : n + 6000 ≤ ms) {sh : s_S} {M : s_M} {sz o : Int} {s : rnT} {hd : Int} {ns : Int} {O : Int → Int} {Q : Int → Int} {Z : Int → Int} {nr : Int} {t : List Int} {WR : Int → Int} {YR : Int → List Int} {vR : List Int} {nc : Int} {m : Int} {WC : Int → Int} {L : Int → Int} {S : s_M} {T : Int → List Int} {i : Int} {b N : Nat} {xs : Nat → Int32} (ZZ : z_C b N xs g) (hcw : cwd sh M sz o s hd ns O Q Z nr t WR YR vR nc m WC L) (hmq : mq sh M M (o + 247) S) (hcp : cpl S T s ns O Q Z t nc m WC L) (hok : opk O Q Z) (hq : sh (o + 276) = some (.inr (.long, 1))) (hsz : o + 277 ≤ sz) (hln : 0 ≤ s.2.2.1.1 ∧ s.2.2.1.1 ≤ 2000000000) (hi : 0 ≤ i ∧ i + 5 ≤ N) (hN : N ≤ 100000) (kont : ∀ (k' n' : Nat) (sh' : s_S) (M' : s_M) (sz' a' : Int), k' ≤ k + 49 → n' ≤ n + 4374 → 0 ≤ a' → a' ≤ s.2.2.1.1 + 80000 → LR sh' M' sz' o a' → Go g k' n' sh' M' sz' 1224 [(4, vi i), (3, vr (o + 276)), (2, vr (o + 247)), (1, vr o), (0, vr (b : Int))] []) : Go g k n sh M sz 353 [(4, vi i), (3, vr (o + 276)), (2, vr (o + 247)), (1, vr o), (0, vr (b : Int))] [] := by
  have hSr := scr_rng xs
  refine go_aload_n X d_Law_law_353 rfl rfl ?_
  refine go_cV (st2 := []) (r := []) X k_Law_96 (g_forget l D hcw) hcw.1.1 rfl rfl (by omega) (Nat.le_of_ble_eq_true rfl) d_Law_law_354 (by omega) (by omega) (fun v' sh' M1 sz1 hp => ?_)
  obtain ⟨-, e1, e2, e3, hcw1, f1⟩ := hp
  obtain ⟨vv, hvv⟩ : ∃ vv : Int, vv = nc := ⟨_, rfl⟩
  rw [← hvv] at e1
  subst e1
  rw [e2, e3]
  show Go g k n sh M1 sz 357 [(4, vi i), (3, vr (o + 276)), (2, vr (o + 247)), (1, vr o), (0, vr (b : Int))] [vi vv]
  have hmq1 : mq sh M1 M1 (o + 247) S := hmq.mvo (fun z h1 h2 => ⟨rfl, f1 z (by show ¬ (o ≤ z ∧ z ≤ o + 246); omega)⟩)
  have hou1 := hq
  have hzz := Int.le_refl sz
  refine go_aload_n X d_Law_law_357 rfl rfl ?_
  obtain ⟨bb, S2, T2, eA, hth, hbv, hcp2⟩ := o_forget (N := 100000) hcp 
  refine go_cV (st2 := []) (r := [vi vv]) X k_Law_99 (a_forget l D hmq1  eA) hmq1.1.1 rfl rfl (by omega) (Nat.le_of_ble_eq_true rfl) d_Law_law_358 (by omega) (by omega) (fun v' sh' M2 sz2 hp => ?_)
  obtain ⟨e4, e5, e6, hbr, hmq2⟩ := hp
  subst e4
  rw [e5, e6]
  show Go g k n sh M2 sz 361 [(4, vi i), (3, vr (o + 276)), (2, vr (o + 247)), (1, vr o), (0, vr (b : Int))] [vi bb, vi vv]
  have hb1 : bb = vv := (hbv rfl).trans hvv.symm
  refine go_icmp_eq (tgt := 1224) X d_Law_law_361 rfl (by omega) (by omega) (fun _ => ?_) (fun h9 => absurd (show vv = bb by omega) h9)
  refine go_lv (lv' := [(4, vi i), (3, vr (o + 276)), (2, vr (o + 247)), (1, vr o), (0, vr (b : Int))]) X [0, 1, 2, 3, 4] rfl ?_
  exact kont _ _ _ _ _ s.2.2.1.1 (by omega) (by omega) (by omega) (by omega) (LR.mk hcw1 hmq2 hcp2 hok hou1 (by omega) rfl)
set_option maxHeartbeats 4000000 in
set_option maxRecDepth 100000 in
theorem lg_list {l : Launch} (hl : l.stackTraces = false) {D : va_G} {nm : String} {d mc ms : Nat} {sh0 : s_S} {sz0 : Int} {Po : s_Po} {g : g_X} {k n : Nat} (X : Cx l D code "CiteForgeLaw" nm 8 ret d mc ms sh0 sz0 Po g) {hh : List (Nat × Nat × Nat × Nat)} (YY : y_C sh0 sz0 hh g) (hd0 : 100 ≤ d) (hk0 : k + 100 ≤ mc) (hn0 : n + 6000 ≤ ms) {sh : s_S} {M : s_M} {sz o : Int} {s : rnT} {hd : Int} {ns : Int} {O : Int → Int} {Q : Int → Int} {Z : Int → Int} {nr : Int} {t : List Int} {WR : Int → Int} {YR : Int → List Int} {vR : List Int} {nc : Int} {m : Int} {WC : Int → Int} {L : Int → Int} {S : s_M} {T : Int → List Int} {i : Int} {b N : Nat} {xs : Nat → Int32} (ZZ : z_C b N xs g) (hcw : cwd sh M sz o s hd ns O Q Z nr t WR YR vR nc m WC L) (hmq : mq sh M M (o + 247) S) (hcp : cpl S T s ns O Q Z t nc m WC L) (hok : opk O Q Z) (hq : sh (o + 276) = some (.inr (.long, 1))) (hsz : o + 277 ≤ sz) (hln : 0 ≤ s.2.2.1.1 ∧ s.2.2.1.1 ≤ 2000000000) (hi : 0 ≤ i ∧ i + 5 ≤ N) (hN : N ≤ 100000) (kont : ∀ (k' n' : Nat) (sh' : s_S) (M' : s_M) (sz' a' : Int), k' ≤ k + 49 → n' ≤ n + 4374 → 0 ≤ a' → a' ≤ s.2.2.1.1 + 80000 → LR sh' M' sz' o a' → Go g k' n' sh' M' sz' 1224 [(4, vi i), (3, vr (o + 276)), (2, vr (o + 247)), (1, vr o), (0, vr (b : Int))] []) : Go g k n sh M sz 366 [(4, vi i), (3, vr (o + 276)), (2, vr (o + 247)), (1, vr o), (0, vr (b : Int))] [] := by
  have hSr := scr_rng xs
  refine go_aload_n X d_Law_law_366 rfl rfl ?_
  refine go_aload_n X d_Law_law_367 rfl rfl ?_
  refine go_iload X d_Law_law_368 rfl ?_
  refine go_iconst (v := 1) X d_Law_law_370 ?_
  refine go_iadd X d_Law_law_371 ?_
  refine go_scr X ZZ (by omega) (by omega) d_Law_law_372 ?_
  refine go_aload_n X d_Law_law_373 rfl rfl ?_
  refine go_callSW (r := []) (np := 3) X YY lw_list_c lw_ini (by decide +kernel) lw_list_l lw_list_s (hg_list l hl D hcw (hSr _) hq (by omega) (by omega)) rfl rfl (by omega) (by decide) (by omega) (by omega) (Nat.le_of_ble_eq_true rfl) d_Law_law_374 (fun v' sh1 M1 sz1 hp => ?_)
  obtain ⟨kd, vv, hd', hkd, hvv, hkr, e1, hsh, hzz, hval, hcw1, f1⟩ := hp
  subst e1
  show Go g (k + 1) (n + 6) sh1 M1 sz1 377 [(4, vi i), (3, vr (o + 276)), (2, vr (o + 247)), (1, vr o), (0, vr (b : Int))] [vi kd]
  have hmq1 : mq sh1 M1 M1 (o + 247) S := hmq.mvo (fun z h1 h2 => ⟨hsh z (by omega), f1 z (by show ¬ ((o ≤ z ∧ z ≤ o + 246) ∨ z = o + 276 ∨ sz ≤ z); omega)⟩)
  have hou1 : sh1 (o + 276) = some (.inr (.long, 1)) := (hsh _ (by omega)).trans hq
  refine go_istore (lv' := [(5, vi kd), (4, vi i), (3, vr (o + 276)), (2, vr (o + 247)), (1, vr o), (0, vr (b : Int))]) X d_Law_law_377 (by decide) rfl ?_
  refine go_aload_n X d_Law_law_379 rfl rfl ?_
  refine go_aload_n X d_Law_law_380 rfl rfl ?_
  refine go_iload X d_Law_law_381 rfl ?_
  refine go_iconst (v := 1) X d_Law_law_383 ?_
  refine go_iadd X d_Law_law_384 ?_
  refine go_scr X ZZ (by omega) (by omega) d_Law_law_385 ?_
  obtain ⟨bb, S2, T2, eA, hth, hbv, hcp2⟩ := o_list (N := 100000) (by decide) hcp (i := scr_ xs (i + 1))
  refine go_cV (st2 := []) (r := []) X k_Law_103 (a_list l D hmq1 (hSr _) eA) hmq1.1.1 rfl rfl (by omega) (Nat.le_of_ble_eq_true rfl) d_Law_law_386 (by omega) (by omega) (fun v' sh' M2 sz2 hp => ?_)
  obtain ⟨e4, e5, e6, hbr, hmq2⟩ := hp
  subst e4
  rw [e5, e6]
  show Go g (k + 1) (n + 6) sh1 M2 sz1 389 [(5, vi kd), (4, vi i), (3, vr (o + 276)), (2, vr (o + 247)), (1, vr o), (0, vr (b : Int))] [vi bb]
  have hthr2 : M2 (o + 247) 0 = kd := (hmq2.s 0).trans (hth.trans hkd.symm)
  have hb2 : kd = 0 → bb = vv := fun q => (hbv (hkd.symm.trans q)).trans hvv.symm
  have hv2 : kd = 0 → M2 (o + 276) 0 = bb := fun q => by rw [hmq2.2.2.2 (o + 276) (by show ¬ (o + 247 ≤ o + 276 ∧ o + 276 ≤ o + 247 + 28); omega), hval q, ← hb2 q, wi32_id hbr]
  refine go_istore (lv' := [(6, vi bb), (5, vi kd), (4, vi i), (3, vr (o + 276)), (2, vr (o + 247)), (1, vr o), (0, vr (b : Int))]) X d_Law_law_389 (by decide) rfl ?_
  refine go_aload_n X d_Law_law_391 rfl rfl ?_
  refine go_cVf (st2 := [vi kd]) (r := []) X k_Law_80 (m_thrown l D hmq2.1.1 hthr2) hmq2.1.1 rfl rfl (by omega) (Nat.le_of_ble_eq_true rfl) d_Law_law_392 (by omega) (by omega) rfl ?_
  refine go_iload X d_Law_law_395 rfl ?_
  refine go_icmp_eq (tgt := 402) X d_Law_law_397 rfl (by omega) (by omega) (fun _ => ?_) (fun h9 => absurd (show kd = kd by omega) h9)
  refine go_iload X d_Law_law_402 rfl ?_
  refine go_if_ne (tgt := 419) X d_Law_law_404 rfl (by omega) (fun hq1 => ?_) (fun hq1 => ?_)
  · skip
    refine go_goto (tgt := 1224) X d_Law_law_419 rfl ?_
    refine go_lv (lv' := [(4, vi i), (3, vr (o + 276)), (2, vr (o + 247)), (1, vr o), (0, vr (b : Int))]) X [2, 3, 4, 5, 6] rfl ?_
    have hcp3 : cpl S2 T2 (if lsk (scr_ xs (i + 1)) = 0 then (((mkl WC nc ns (scr_ xs (i + 1)) (0, L, s.1.1, s.2.1.2)).2.2.1, s.1.2), (s.2.1.1, (mkl WC nc ns (scr_ xs (i + 1)) (0, L, s.1.1, s.2.1.2)).2.2.2), s.2.2) else s) ns O Q Z t nc (if lsk (scr_ xs (i + 1)) = 0 then ((mkl WC nc ns (scr_ xs (i + 1)) (0, L, s.1.1, s.2.1.2)).1) else m) WC (if lsk (scr_ xs (i + 1)) = 0 then ((mkl WC nc ns (scr_ xs (i + 1)) (0, L, s.1.1, s.2.1.2)).2.1) else L) := by
      by_cases c : lsk (scr_ xs (i + 1)) = 0
      · rw [if_pos c, if_pos c, if_pos c]
        rw [if_pos c] at hcp2
        exact hcp2
      · rw [if_neg c, if_neg c, if_neg c]
        rw [if_neg c] at hcp2
        exact hcp2
    exact kont _ _ _ _ _ s.2.2.1.1 (by omega) (by omega) (by omega) (by omega) (LR.mk hcw1 hmq2 hcp3 hok hou1 (by omega) (by split <;> rfl))
  · skip
    have hv1 := hv2 hq1
    refine go_aload_n X d_Law_law_407 rfl rfl ?_
    refine go_iconst (v := 0) X d_Law_law_408 ?_
    refine go_lald X hou1 (by omega) (by omega) d_Law_law_409 ?_
    refine go_top (v' := vl bb) X (by rw [hv1]) ?_
    refine go_iload X d_Law_law_410 rfl ?_
    refine go_i2l X d_Law_law_412 (by omega) ?_
    refine go_lcmp X (by omega) (by omega) d_Law_law_413 ?_
    refine go_top (v' := vi 0) X (by rw [show bb = bb by omega, s_cmp_self]) ?_
    refine go_if_eq (tgt := 419) X d_Law_law_414 rfl (by omega) (fun _ => ?_) (fun h9 => absurd h9 (by decide))
    refine go_goto (tgt := 1224) X d_Law_law_419 rfl ?_
    refine go_lv (lv' := [(4, vi i), (3, vr (o + 276)), (2, vr (o + 247)), (1, vr o), (0, vr (b : Int))]) X [2, 3, 4, 5, 6] rfl ?_
    have hcp3 : cpl S2 T2 (if lsk (scr_ xs (i + 1)) = 0 then (((mkl WC nc ns (scr_ xs (i + 1)) (0, L, s.1.1, s.2.1.2)).2.2.1, s.1.2), (s.2.1.1, (mkl WC nc ns (scr_ xs (i + 1)) (0, L, s.1.1, s.2.1.2)).2.2.2), s.2.2) else s) ns O Q Z t nc (if lsk (scr_ xs (i + 1)) = 0 then ((mkl WC nc ns (scr_ xs (i + 1)) (0, L, s.1.1, s.2.1.2)).1) else m) WC (if lsk (scr_ xs (i + 1)) = 0 then ((mkl WC nc ns (scr_ xs (i + 1)) (0, L, s.1.1, s.2.1.2)).2.1) else L) := by
      by_cases c : lsk (scr_ xs (i + 1)) = 0
      · rw [if_pos c, if_pos c, if_pos c]
        rw [if_pos c] at hcp2
        exact hcp2
      · rw [if_neg c, if_neg c, if_neg c]
        rw [if_neg c] at hcp2
        exact hcp2
    exact kont _ _ _ _ _ s.2.2.1.1 (by omega) (by omega) (by omega) (by omega) (LR.mk hcw1 hmq2 hcp3 hok hou1 (by omega) (by split <;> rfl))
set_option maxHeartbeats 4000000 in
set_option maxRecDepth 100000 in
theorem lg_key {l : Launch} (hl : l.stackTraces = false) {D : va_G} {nm : String} {d mc ms : Nat} {sh0 : s_S} {sz0 : Int} {Po : s_Po} {g : g_X} {k n : Nat} (X : Cx l D code "CiteForgeLaw" nm 8 ret d mc ms sh0 sz0 Po g) {hh : List (Nat × Nat × Nat × Nat)} (YY : y_C sh0 sz0 hh g) (hd0 : 100 ≤ d) (hk0 : k + 100 ≤ mc) (hn0 : n + 6000 ≤ ms) {sh : s_S} {M : s_M} {sz o : Int} {s : rnT} {hd : Int} {ns : Int} {O : Int → Int} {Q : Int → Int} {Z : Int → Int} {nr : Int} {t : List Int} {WR : Int → Int} {YR : Int → List Int} {vR : List Int} {nc : Int} {m : Int} {WC : Int → Int} {L : Int → Int} {S : s_M} {T : Int → List Int} {i : Int} {b N : Nat} {xs : Nat → Int32} (ZZ : z_C b N xs g) (hcw : cwd sh M sz o s hd ns O Q Z nr t WR YR vR nc m WC L) (hmq : mq sh M M (o + 247) S) (hcp : cpl S T s ns O Q Z t nc m WC L) (hok : opk O Q Z) (hq : sh (o + 276) = some (.inr (.long, 1))) (hsz : o + 277 ≤ sz) (hln : 0 ≤ s.2.2.1.1 ∧ s.2.2.1.1 ≤ 2000000000) (hi : 0 ≤ i ∧ i + 5 ≤ N) (hN : N ≤ 100000) (kont : ∀ (k' n' : Nat) (sh' : s_S) (M' : s_M) (sz' a' : Int), k' ≤ k + 49 → n' ≤ n + 4374 → 0 ≤ a' → a' ≤ s.2.2.1.1 + 80000 → LR sh' M' sz' o a' → Go g k' n' sh' M' sz' 1224 [(4, vi i), (3, vr (o + 276)), (2, vr (o + 247)), (1, vr o), (0, vr (b : Int))] []) : Go g k n sh M sz 422 [(4, vi i), (3, vr (o + 276)), (2, vr (o + 247)), (1, vr o), (0, vr (b : Int))] [] := by
  have hSr := scr_rng xs
  refine go_aload_n X d_Law_law_422 rfl rfl ?_
  refine go_aload_n X d_Law_law_423 rfl rfl ?_
  refine go_iload X d_Law_law_424 rfl ?_
  refine go_iconst (v := 1) X d_Law_law_426 ?_
  refine go_iadd X d_Law_law_427 ?_
  refine go_scr X ZZ (by omega) (by omega) d_Law_law_428 ?_
  refine go_aload_n X d_Law_law_429 rfl rfl ?_
  refine go_callSW (r := []) (np := 3) X YY lw_key_c lw_ini (by decide +kernel) lw_key_l lw_key_s (hg_key l hl D hcw (hSr _) hq (by omega) (by omega)) rfl rfl (by omega) (by decide) (by omega) (by omega) (Nat.le_of_ble_eq_true rfl) d_Law_law_430 (fun v' sh1 M1 sz1 hp => ?_)
  obtain ⟨kd, vv, hd', hkd, hvv, hkr, e1, hsh, hzz, hval, hcw1, f1⟩ := hp
  subst e1
  show Go g (k + 1) (n + 6) sh1 M1 sz1 433 [(4, vi i), (3, vr (o + 276)), (2, vr (o + 247)), (1, vr o), (0, vr (b : Int))] [vi kd]
  have hmq1 : mq sh1 M1 M1 (o + 247) S := hmq.mvo (fun z h1 h2 => ⟨hsh z (by omega), f1 z (by show ¬ ((o ≤ z ∧ z ≤ o + 246) ∨ z = o + 276 ∨ sz ≤ z); omega)⟩)
  have hou1 : sh1 (o + 276) = some (.inr (.long, 1)) := (hsh _ (by omega)).trans hq
  refine go_istore (lv' := [(5, vi kd), (4, vi i), (3, vr (o + 276)), (2, vr (o + 247)), (1, vr o), (0, vr (b : Int))]) X d_Law_law_433 (by decide) rfl ?_
  refine go_aload_n X d_Law_law_435 rfl rfl ?_
  refine go_aload_n X d_Law_law_436 rfl rfl ?_
  refine go_iload X d_Law_law_437 rfl ?_
  refine go_iconst (v := 1) X d_Law_law_439 ?_
  refine go_iadd X d_Law_law_440 ?_
  refine go_scr X ZZ (by omega) (by omega) d_Law_law_441 ?_
  obtain ⟨bb, S2, T2, eA, hth, hbv, hcp2⟩ := o_key (N := 100000) hcp (i := scr_ xs (i + 1))
  refine go_cV (st2 := []) (r := []) X k_Law_106 (a_key l D hmq1 (hSr _) eA) hmq1.1.1 rfl rfl (by omega) (Nat.le_of_ble_eq_true rfl) d_Law_law_442 (by omega) (by omega) (fun v' sh' M2 sz2 hp => ?_)
  obtain ⟨e4, e5, e6, hbr, hmq2⟩ := hp
  subst e4
  rw [e5, e6]
  show Go g (k + 1) (n + 6) sh1 M2 sz1 445 [(5, vi kd), (4, vi i), (3, vr (o + 276)), (2, vr (o + 247)), (1, vr o), (0, vr (b : Int))] [vl bb]
  have hthr2 : M2 (o + 247) 0 = kd := (hmq2.s 0).trans (hth.trans hkd.symm)
  have hb2 : kd = 0 → bb = vv := fun q => (hbv (hkd.symm.trans q)).trans hvv.symm
  have hv2 : kd = 0 → M2 (o + 276) 0 = bb := fun q => by rw [hmq2.2.2.2 (o + 276) (by show ¬ (o + 247 ≤ o + 276 ∧ o + 276 ≤ o + 247 + 28); omega), hval q, ← hb2 q]
  refine go_lstore (lv' := [(6, vl bb), (5, vi kd), (4, vi i), (3, vr (o + 276)), (2, vr (o + 247)), (1, vr o), (0, vr (b : Int))]) X d_Law_law_445 (by decide) rfl ?_
  refine go_aload_n X d_Law_law_447 rfl rfl ?_
  refine go_cVf (st2 := [vi kd]) (r := []) X k_Law_80 (m_thrown l D hmq2.1.1 hthr2) hmq2.1.1 rfl rfl (by omega) (Nat.le_of_ble_eq_true rfl) d_Law_law_448 (by omega) (by omega) rfl ?_
  refine go_iload X d_Law_law_451 rfl ?_
  refine go_icmp_eq (tgt := 458) X d_Law_law_453 rfl (by omega) (by omega) (fun _ => ?_) (fun h9 => absurd (show kd = kd by omega) h9)
  refine go_iload X d_Law_law_458 rfl ?_
  refine go_if_ne (tgt := 474) X d_Law_law_460 rfl (by omega) (fun hq1 => ?_) (fun hq1 => ?_)
  · skip
    refine go_goto (tgt := 1224) X d_Law_law_474 rfl ?_
    refine go_lv (lv' := [(4, vi i), (3, vr (o + 276)), (2, vr (o + 247)), (1, vr o), (0, vr (b : Int))]) X [2, 3, 4, 5, 6] rfl ?_
    exact kont _ _ _ _ _ s.2.2.1.1 (by omega) (by omega) (by omega) (by omega) (LR.mk hcw1 hmq2 hcp2 hok hou1 (by omega) rfl)
  · skip
    have hv1 := hv2 hq1
    refine go_aload_n X d_Law_law_463 rfl rfl ?_
    refine go_iconst (v := 0) X d_Law_law_464 ?_
    refine go_lald X hou1 (by omega) (by omega) d_Law_law_465 ?_
    refine go_top (v' := vl bb) X (by rw [hv1]) ?_
    refine go_lload X d_Law_law_466 rfl ?_
    refine go_lcmp X (by omega) (by omega) d_Law_law_468 ?_
    refine go_top (v' := vi 0) X (by rw [show bb = bb by omega, s_cmp_self]) ?_
    refine go_if_eq (tgt := 474) X d_Law_law_469 rfl (by omega) (fun _ => ?_) (fun h9 => absurd h9 (by decide))
    refine go_goto (tgt := 1224) X d_Law_law_474 rfl ?_
    refine go_lv (lv' := [(4, vi i), (3, vr (o + 276)), (2, vr (o + 247)), (1, vr o), (0, vr (b : Int))]) X [2, 3, 4, 5, 6] rfl ?_
    exact kont _ _ _ _ _ s.2.2.1.1 (by omega) (by omega) (by omega) (by omega) (LR.mk hcw1 hmq2 hcp2 hok hou1 (by omega) rfl)
set_option maxHeartbeats 4000000 in
set_option maxRecDepth 100000 in
theorem lg_sort {l : Launch} (hl : l.stackTraces = false) {D : va_G} {nm : String} {d mc ms : Nat} {sh0 : s_S} {sz0 : Int} {Po : s_Po} {g : g_X} {k n : Nat} (X : Cx l D code "CiteForgeLaw" nm 8 ret d mc ms sh0 sz0 Po g) {hh : List (Nat × Nat × Nat × Nat)} (YY : y_C sh0 sz0 hh g) (hd0 : 100 ≤ d) (hk0 : k + 100 ≤ mc) (hn0 : n + 6000 ≤ ms) {sh : s_S} {M : s_M} {sz o : Int} {s : rnT} {hd : Int} {ns : Int} {O : Int → Int} {Q : Int → Int} {Z : Int → Int} {nr : Int} {t : List Int} {WR : Int → Int} {YR : Int → List Int} {vR : List Int} {nc : Int} {m : Int} {WC : Int → Int} {L : Int → Int} {S : s_M} {T : Int → List Int} {i : Int} {b N : Nat} {xs : Nat → Int32} (ZZ : z_C b N xs g) (hcw : cwd sh M sz o s hd ns O Q Z nr t WR YR vR nc m WC L) (hmq : mq sh M M (o + 247) S) (hcp : cpl S T s ns O Q Z t nc m WC L) (hok : opk O Q Z) (hq : sh (o + 276) = some (.inr (.long, 1))) (hsz : o + 277 ≤ sz) (hln : 0 ≤ s.2.2.1.1 ∧ s.2.2.1.1 ≤ 2000000000) (hi : 0 ≤ i ∧ i + 5 ≤ N) (hN : N ≤ 100000) (kont : ∀ (k' n' : Nat) (sh' : s_S) (M' : s_M) (sz' a' : Int), k' ≤ k + 49 → n' ≤ n + 4374 → 0 ≤ a' → a' ≤ s.2.2.1.1 + 80000 → LR sh' M' sz' o a' → Go g k' n' sh' M' sz' 1224 [(4, vi i), (3, vr (o + 276)), (2, vr (o + 247)), (1, vr o), (0, vr (b : Int))] []) : Go g k n sh M sz 477 [(4, vi i), (3, vr (o + 276)), (2, vr (o + 247)), (1, vr o), (0, vr (b : Int))] [] := by
  have hSr := scr_rng xs
  refine go_aload_n X d_Law_law_477 rfl rfl ?_
  refine go_cV (st2 := []) (r := []) X k_Law_107 (g_sort l D hcw) hcw.1.1 rfl rfl (by omega) (Nat.le_of_ble_eq_true rfl) d_Law_law_478 (by omega) (by omega) (fun v' sh' M1 sz1 hp => ?_)
  obtain ⟨-, e1, e2, e3, hcw1, f1⟩ := hp
  obtain ⟨vv, hvv⟩ : ∃ vv : Int, vv = s_b (srl s.2.1.2 m L).2 := ⟨_, rfl⟩
  rw [← hvv] at e1
  subst e1
  rw [e2, e3]
  show Go g k n sh M1 sz 481 [(4, vi i), (3, vr (o + 276)), (2, vr (o + 247)), (1, vr o), (0, vr (b : Int))] [vi vv]
  have hmq1 : mq sh M1 M1 (o + 247) S := hmq.mvo (fun z h1 h2 => ⟨rfl, f1 z (by show ¬ (o ≤ z ∧ z ≤ o + 246); omega)⟩)
  have hou1 := hq
  have hzz := Int.le_refl sz
  refine go_aload_n X d_Law_law_481 rfl rfl ?_
  obtain ⟨bb, S2, T2, eA, hth, hbv, hcp2⟩ := o_sort (N := 100000) (by decide) hcp 
  refine go_cV (st2 := []) (r := [vi vv]) X k_Law_111 (a_sort l D hmq1  eA) hmq1.1.1 rfl rfl (by omega) (Nat.le_of_ble_eq_true rfl) d_Law_law_482 (by omega) (by omega) (fun v' sh' M2 sz2 hp => ?_)
  obtain ⟨e4, e5, e6, hbr, hmq2⟩ := hp
  subst e4
  rw [e5, e6]
  show Go g k n sh M2 sz 485 [(4, vi i), (3, vr (o + 276)), (2, vr (o + 247)), (1, vr o), (0, vr (b : Int))] [vi bb, vi vv]
  have hb1 : bb = vv := (hbv rfl).trans hvv.symm
  refine go_icmp_eq (tgt := 1224) X d_Law_law_485 rfl (by omega) (by omega) (fun _ => ?_) (fun h9 => absurd (show vv = bb by omega) h9)
  refine go_lv (lv' := [(4, vi i), (3, vr (o + 276)), (2, vr (o + 247)), (1, vr o), (0, vr (b : Int))]) X [0, 1, 2, 3, 4] rfl ?_
  exact kont _ _ _ _ _ s.2.2.1.1 (by omega) (by omega) (by omega) (by omega) (LR.mk hcw1 hmq2 hcp2 hok hou1 (by omega) rfl)
set_option maxHeartbeats 4000000 in
set_option maxRecDepth 100000 in
theorem lg_field {l : Launch} (hl : l.stackTraces = false) {D : va_G} {nm : String} {d mc ms : Nat} {sh0 : s_S} {sz0 : Int} {Po : s_Po} {g : g_X} {k n : Nat} (X : Cx l D code "CiteForgeLaw" nm 8 ret d mc ms sh0 sz0 Po g) {hh : List (Nat × Nat × Nat × Nat)} (YY : y_C sh0 sz0 hh g) (hd0 : 100 ≤ d) (hk0 : k + 100 ≤ mc) (hn0 : n + 6000 ≤ ms) {sh : s_S} {M : s_M} {sz o : Int} {s : rnT} {hd : Int} {ns : Int} {O : Int → Int} {Q : Int → Int} {Z : Int → Int} {nr : Int} {t : List Int} {WR : Int → Int} {YR : Int → List Int} {vR : List Int} {nc : Int} {m : Int} {WC : Int → Int} {L : Int → Int} {S : s_M} {T : Int → List Int} {i : Int} {b N : Nat} {xs : Nat → Int32} (ZZ : z_C b N xs g) (hcw : cwd sh M sz o s hd ns O Q Z nr t WR YR vR nc m WC L) (hmq : mq sh M M (o + 247) S) (hcp : cpl S T s ns O Q Z t nc m WC L) (hok : opk O Q Z) (hq : sh (o + 276) = some (.inr (.long, 1))) (hsz : o + 277 ≤ sz) (hln : 0 ≤ s.2.2.1.1 ∧ s.2.2.1.1 ≤ 2000000000) (hi : 0 ≤ i ∧ i + 5 ≤ N) (hN : N ≤ 100000) (kont : ∀ (k' n' : Nat) (sh' : s_S) (M' : s_M) (sz' a' : Int), k' ≤ k + 49 → n' ≤ n + 4374 → 0 ≤ a' → a' ≤ s.2.2.1.1 + 80000 → LR sh' M' sz' o a' → Go g k' n' sh' M' sz' 1224 [(4, vi i), (3, vr (o + 276)), (2, vr (o + 247)), (1, vr o), (0, vr (b : Int))] []) : Go g k n sh M sz 490 [(4, vi i), (3, vr (o + 276)), (2, vr (o + 247)), (1, vr o), (0, vr (b : Int))] [] := by
  have hSr := scr_rng xs
  refine go_aload_n X d_Law_law_490 rfl rfl ?_
  refine go_aload_n X d_Law_law_491 rfl rfl ?_
  refine go_iload X d_Law_law_492 rfl ?_
  refine go_iconst (v := 1) X d_Law_law_494 ?_
  refine go_iadd X d_Law_law_495 ?_
  refine go_scr X ZZ (by omega) (by omega) d_Law_law_496 ?_
  refine go_aload_n X d_Law_law_497 rfl rfl ?_
  refine go_iload X d_Law_law_498 rfl ?_
  refine go_iconst (v := 2) X d_Law_law_500 ?_
  refine go_iadd X d_Law_law_501 ?_
  refine go_scr X ZZ (by omega) (by omega) d_Law_law_502 ?_
  refine go_i2l X d_Law_law_503 (by have := hSr (i + 2); omega) ?_
  refine go_bipush (v := 32) X d_Law_law_504 (by decide) ?_
  refine go_lshl (z := lsh_ (scr_ xs (i + 2)) 32) X d_Law_law_506 (Int64.ofInt_toInt _).symm ?_
  refine go_aload_n X d_Law_law_507 rfl rfl ?_
  refine go_iload X d_Law_law_508 rfl ?_
  refine go_iconst (v := 3) X d_Law_law_510 ?_
  refine go_iadd X d_Law_law_511 ?_
  refine go_scr X ZZ (by omega) (by omega) d_Law_law_512 ?_
  refine go_i2l X d_Law_law_513 (by have := hSr (i + 3); omega) ?_
  refine go_ldc2 (x := 4294967295) X w_kl_Law_72 (by decide) d_Law_law_514 ?_
  refine go_land (z := lan_ (scr_ xs (i + 3)) 4294967295) X d_Law_law_517 (Int64.ofInt_toInt _).symm ?_
  refine go_lor (z := lor_ (lsh_ (scr_ xs (i + 2)) 32) (lan_ (scr_ xs (i + 3)) 4294967295)) X d_Law_law_518 (Int64.ofInt_toInt _).symm ?_
  refine go_top (v' := vl (u64 (lor_ (lsh_ (scr_ xs (i + 2)) 32) (lan_ (scr_ xs (i + 3)) 4294967295)))) X (u64_vl _) ?_
  refine go_aload_n X d_Law_law_519 rfl rfl ?_
  refine go_iload X d_Law_law_520 rfl ?_
  refine go_iconst (v := 4) X d_Law_law_522 ?_
  refine go_iadd X d_Law_law_523 ?_
  refine go_scr X ZZ (by omega) (by omega) d_Law_law_524 ?_
  refine go_aload_n X d_Law_law_525 rfl rfl ?_
  refine go_callSW (r := []) (np := 5) X YY lw_field_c lw_ini (by decide +kernel) lw_field_l lw_field_s (hg_field l hl D hcw (hSr _) (hSr _) (u64_rng _) hq (by omega) (by omega)) rfl rfl (by omega) (by decide) (by omega) (by omega) (Nat.le_of_ble_eq_true rfl) d_Law_law_526 (fun v' sh1 M1 sz1 hp => ?_)
  obtain ⟨kd, vv, hd', hkd, hvv, hkr, e1, hsh, hzz, hval, hcw1, f1⟩ := hp
  subst e1
  show Go g (k + 1) (n + 6) sh1 M1 sz1 529 [(4, vi i), (3, vr (o + 276)), (2, vr (o + 247)), (1, vr o), (0, vr (b : Int))] [vi kd]
  have hmq1 : mq sh1 M1 M1 (o + 247) S := hmq.mvo (fun z h1 h2 => ⟨hsh z (by omega), f1 z (by show ¬ ((o ≤ z ∧ z ≤ o + 246) ∨ z = o + 276 ∨ sz ≤ z); omega)⟩)
  have hou1 : sh1 (o + 276) = some (.inr (.long, 1)) := (hsh _ (by omega)).trans hq
  refine go_istore (lv' := [(5, vi kd), (4, vi i), (3, vr (o + 276)), (2, vr (o + 247)), (1, vr o), (0, vr (b : Int))]) X d_Law_law_529 (by decide) rfl ?_
  refine go_aload_n X d_Law_law_531 rfl rfl ?_
  refine go_aload_n X d_Law_law_532 rfl rfl ?_
  refine go_iload X d_Law_law_533 rfl ?_
  refine go_iconst (v := 1) X d_Law_law_535 ?_
  refine go_iadd X d_Law_law_536 ?_
  refine go_scr X ZZ (by omega) (by omega) d_Law_law_537 ?_
  refine go_aload_n X d_Law_law_538 rfl rfl ?_
  refine go_iload X d_Law_law_539 rfl ?_
  refine go_iconst (v := 2) X d_Law_law_541 ?_
  refine go_iadd X d_Law_law_542 ?_
  refine go_scr X ZZ (by omega) (by omega) d_Law_law_543 ?_
  refine go_i2l X d_Law_law_544 (by have := hSr (i + 2); omega) ?_
  refine go_bipush (v := 32) X d_Law_law_545 (by decide) ?_
  refine go_lshl (z := lsh_ (scr_ xs (i + 2)) 32) X d_Law_law_547 (Int64.ofInt_toInt _).symm ?_
  refine go_aload_n X d_Law_law_548 rfl rfl ?_
  refine go_iload X d_Law_law_549 rfl ?_
  refine go_iconst (v := 3) X d_Law_law_551 ?_
  refine go_iadd X d_Law_law_552 ?_
  refine go_scr X ZZ (by omega) (by omega) d_Law_law_553 ?_
  refine go_i2l X d_Law_law_554 (by have := hSr (i + 3); omega) ?_
  refine go_ldc2 (x := 4294967295) X w_kl_Law_72 (by decide) d_Law_law_555 ?_
  refine go_land (z := lan_ (scr_ xs (i + 3)) 4294967295) X d_Law_law_558 (Int64.ofInt_toInt _).symm ?_
  refine go_lor (z := lor_ (lsh_ (scr_ xs (i + 2)) 32) (lan_ (scr_ xs (i + 3)) 4294967295)) X d_Law_law_559 (Int64.ofInt_toInt _).symm ?_
  refine go_aload_n X d_Law_law_560 rfl rfl ?_
  refine go_iload X d_Law_law_561 rfl ?_
  refine go_iconst (v := 4) X d_Law_law_563 ?_
  refine go_iadd X d_Law_law_564 ?_
  refine go_scr X ZZ (by omega) (by omega) d_Law_law_565 ?_
  obtain ⟨bb, S2, T2, eA, hth, hbv, hcp2⟩ := o_field (N := 100000) (by decide) hcp (i := scr_ xs (i + 1)) (x := lor_ (lsh_ (scr_ xs (i + 2)) 32) (lan_ (scr_ xs (i + 3)) 4294967295)) (j := scr_ xs (i + 4))
  refine go_cV (st2 := []) (r := []) X k_Law_115 (a_field l D hmq1 (hSr _) (lor_rng _ _) (hSr _) eA) hmq1.1.1 rfl rfl (by omega) (Nat.le_of_ble_eq_true rfl) d_Law_law_566 (by omega) (by omega) (fun v' sh' M2 sz2 hp => ?_)
  obtain ⟨e4, e5, e6, hbr, hmq2⟩ := hp
  subst e4
  rw [e5, e6]
  show Go g (k + 1) (n + 6) sh1 M2 sz1 569 [(5, vi kd), (4, vi i), (3, vr (o + 276)), (2, vr (o + 247)), (1, vr o), (0, vr (b : Int))] [vi bb]
  have hthr2 : M2 (o + 247) 0 = kd := (hmq2.s 0).trans (hth.trans hkd.symm)
  have hb2 : kd = 0 → bb = vv := fun q => (hbv (hkd.symm.trans q)).trans hvv.symm
  have hv2 : kd = 0 → M2 (o + 276) 0 = bb := fun q => by rw [hmq2.2.2.2 (o + 276) (by show ¬ (o + 247 ≤ o + 276 ∧ o + 276 ≤ o + 247 + 28); omega), hval q, ← hb2 q, wi32_id hbr]
  refine go_istore (lv' := [(6, vi bb), (5, vi kd), (4, vi i), (3, vr (o + 276)), (2, vr (o + 247)), (1, vr o), (0, vr (b : Int))]) X d_Law_law_569 (by decide) rfl ?_
  refine go_aload_n X d_Law_law_571 rfl rfl ?_
  refine go_cVf (st2 := [vi kd]) (r := []) X k_Law_80 (m_thrown l D hmq2.1.1 hthr2) hmq2.1.1 rfl rfl (by omega) (Nat.le_of_ble_eq_true rfl) d_Law_law_572 (by omega) (by omega) rfl ?_
  refine go_iload X d_Law_law_575 rfl ?_
  refine go_icmp_eq (tgt := 582) X d_Law_law_577 rfl (by omega) (by omega) (fun _ => ?_) (fun h9 => absurd (show kd = kd by omega) h9)
  refine go_iload X d_Law_law_582 rfl ?_
  refine go_if_ne (tgt := 599) X d_Law_law_584 rfl (by omega) (fun hq1 => ?_) (fun hq1 => ?_)
  · skip
    refine go_goto (tgt := 1224) X d_Law_law_599 rfl ?_
    refine go_lv (lv' := [(4, vi i), (3, vr (o + 276)), (2, vr (o + 247)), (1, vr o), (0, vr (b : Int))]) X [2, 3, 4, 5, 6] rfl ?_
    exact kont _ _ _ _ _ s.2.2.1.1 (by omega) (by omega) (by omega) (by omega) (LR.mk hcw1 hmq2 hcp2 hok hou1 (by omega) rfl)
  · skip
    have hv1 := hv2 hq1
    refine go_aload_n X d_Law_law_587 rfl rfl ?_
    refine go_iconst (v := 0) X d_Law_law_588 ?_
    refine go_lald X hou1 (by omega) (by omega) d_Law_law_589 ?_
    refine go_top (v' := vl bb) X (by rw [hv1]) ?_
    refine go_iload X d_Law_law_590 rfl ?_
    refine go_i2l X d_Law_law_592 (by omega) ?_
    refine go_lcmp X (by omega) (by omega) d_Law_law_593 ?_
    refine go_top (v' := vi 0) X (by rw [show bb = bb by omega, s_cmp_self]) ?_
    refine go_if_eq (tgt := 599) X d_Law_law_594 rfl (by omega) (fun _ => ?_) (fun h9 => absurd h9 (by decide))
    refine go_goto (tgt := 1224) X d_Law_law_599 rfl ?_
    refine go_lv (lv' := [(4, vi i), (3, vr (o + 276)), (2, vr (o + 247)), (1, vr o), (0, vr (b : Int))]) X [2, 3, 4, 5, 6] rfl ?_
    exact kont _ _ _ _ _ s.2.2.1.1 (by omega) (by omega) (by omega) (by omega) (LR.mk hcw1 hmq2 hcp2 hok hou1 (by omega) rfl)
set_option maxHeartbeats 4000000 in
set_option maxRecDepth 100000 in
theorem lg_define {l : Launch} (hl : l.stackTraces = false) {D : va_G} {nm : String} {d mc ms : Nat} {sh0 : s_S} {sz0 : Int} {Po : s_Po} {g : g_X} {k n : Nat} (X : Cx l D code "CiteForgeLaw" nm 8 ret d mc ms sh0 sz0 Po g) {hh : List (Nat × Nat × Nat × Nat)} (YY : y_C sh0 sz0 hh g) (hd0 : 100 ≤ d) (hk0 : k + 100 ≤ mc) (hn0 : n + 6000 ≤ ms) {sh : s_S} {M : s_M} {sz o : Int} {s : rnT} {hd : Int} {ns : Int} {O : Int → Int} {Q : Int → Int} {Z : Int → Int} {nr : Int} {t : List Int} {WR : Int → Int} {YR : Int → List Int} {vR : List Int} {nc : Int} {m : Int} {WC : Int → Int} {L : Int → Int} {S : s_M} {T : Int → List Int} {i : Int} {b N : Nat} {xs : Nat → Int32} (ZZ : z_C b N xs g) (hcw : cwd sh M sz o s hd ns O Q Z nr t WR YR vR nc m WC L) (hmq : mq sh M M (o + 247) S) (hcp : cpl S T s ns O Q Z t nc m WC L) (hok : opk O Q Z) (hq : sh (o + 276) = some (.inr (.long, 1))) (hsz : o + 277 ≤ sz) (hln : 0 ≤ s.2.2.1.1 ∧ s.2.2.1.1 ≤ 2000000000) (hi : 0 ≤ i ∧ i + 5 ≤ N) (hN : N ≤ 100000) (kont : ∀ (k' n' : Nat) (sh' : s_S) (M' : s_M) (sz' a' : Int), k' ≤ k + 49 → n' ≤ n + 4374 → 0 ≤ a' → a' ≤ s.2.2.1.1 + 80000 → LR sh' M' sz' o a' → Go g k' n' sh' M' sz' 1224 [(4, vi i), (3, vr (o + 276)), (2, vr (o + 247)), (1, vr o), (0, vr (b : Int))] []) : Go g k n sh M sz 602 [(4, vi i), (3, vr (o + 276)), (2, vr (o + 247)), (1, vr o), (0, vr (b : Int))] [] := by
  have hSr := scr_rng xs
  refine go_aload_n X d_Law_law_602 rfl rfl ?_
  refine go_aload_n X d_Law_law_603 rfl rfl ?_
  refine go_iload X d_Law_law_604 rfl ?_
  refine go_iconst (v := 1) X d_Law_law_606 ?_
  refine go_iadd X d_Law_law_607 ?_
  refine go_scr X ZZ (by omega) (by omega) d_Law_law_608 ?_
  refine go_aload_n X d_Law_law_609 rfl rfl ?_
  refine go_iload X d_Law_law_610 rfl ?_
  refine go_iconst (v := 2) X d_Law_law_612 ?_
  refine go_iadd X d_Law_law_613 ?_
  refine go_scr X ZZ (by omega) (by omega) d_Law_law_614 ?_
  refine go_aload_n X d_Law_law_615 rfl rfl ?_
  refine go_iload X d_Law_law_616 rfl ?_
  refine go_iconst (v := 3) X d_Law_law_618 ?_
  refine go_iadd X d_Law_law_619 ?_
  refine go_scr X ZZ (by omega) (by omega) d_Law_law_620 ?_
  refine go_i2l X d_Law_law_621 (by have := hSr (i + 3); omega) ?_
  refine go_bipush (v := 32) X d_Law_law_622 (by decide) ?_
  refine go_lshl (z := lsh_ (scr_ xs (i + 3)) 32) X d_Law_law_624 (Int64.ofInt_toInt _).symm ?_
  refine go_aload_n X d_Law_law_625 rfl rfl ?_
  refine go_iload X d_Law_law_626 rfl ?_
  refine go_iconst (v := 4) X d_Law_law_628 ?_
  refine go_iadd X d_Law_law_629 ?_
  refine go_scr X ZZ (by omega) (by omega) d_Law_law_630 ?_
  refine go_i2l X d_Law_law_631 (by have := hSr (i + 4); omega) ?_
  refine go_ldc2 (x := 4294967295) X w_kl_Law_72 (by decide) d_Law_law_632 ?_
  refine go_land (z := lan_ (scr_ xs (i + 4)) 4294967295) X d_Law_law_635 (Int64.ofInt_toInt _).symm ?_
  refine go_lor (z := lor_ (lsh_ (scr_ xs (i + 3)) 32) (lan_ (scr_ xs (i + 4)) 4294967295)) X d_Law_law_636 (Int64.ofInt_toInt _).symm ?_
  refine go_aload_n X d_Law_law_637 rfl rfl ?_
  refine go_callSW (r := []) (np := 5) X YY lw_define_c lw_ini (by decide +kernel) lw_define_l lw_define_s (hg_define l hl D hcw (hSr _) (hSr _) (lor_rng _ _) hok.2.2.2 hq (by omega) (by omega)) rfl rfl (by omega) (by decide) (by omega) (by omega) (Nat.le_of_ble_eq_true rfl) d_Law_law_638 (fun v' sh1 M1 sz1 hp => ?_)
  obtain ⟨kd, vv, hd', hkd, hvv, hkr, e1, hsh, hzz, hval, hcw1, f1⟩ := hp
  subst e1
  show Go g (k + 1) (n + 6) sh1 M1 sz1 641 [(4, vi i), (3, vr (o + 276)), (2, vr (o + 247)), (1, vr o), (0, vr (b : Int))] [vi kd]
  have hmq1 : mq sh1 M1 M1 (o + 247) S := hmq.mvo (fun z h1 h2 => ⟨hsh z (by omega), f1 z (by show ¬ ((o ≤ z ∧ z ≤ o + 246) ∨ z = o + 276 ∨ sz ≤ z); omega)⟩)
  have hou1 : sh1 (o + 276) = some (.inr (.long, 1)) := (hsh _ (by omega)).trans hq
  refine go_istore (lv' := [(5, vi kd), (4, vi i), (3, vr (o + 276)), (2, vr (o + 247)), (1, vr o), (0, vr (b : Int))]) X d_Law_law_641 (by decide) rfl ?_
  refine go_aload_n X d_Law_law_643 rfl rfl ?_
  refine go_aload_n X d_Law_law_644 rfl rfl ?_
  refine go_iload X d_Law_law_645 rfl ?_
  refine go_iconst (v := 1) X d_Law_law_647 ?_
  refine go_iadd X d_Law_law_648 ?_
  refine go_scr X ZZ (by omega) (by omega) d_Law_law_649 ?_
  refine go_aload_n X d_Law_law_650 rfl rfl ?_
  refine go_iload X d_Law_law_651 rfl ?_
  refine go_iconst (v := 2) X d_Law_law_653 ?_
  refine go_iadd X d_Law_law_654 ?_
  refine go_scr X ZZ (by omega) (by omega) d_Law_law_655 ?_
  refine go_aload_n X d_Law_law_656 rfl rfl ?_
  refine go_iload X d_Law_law_657 rfl ?_
  refine go_iconst (v := 3) X d_Law_law_659 ?_
  refine go_iadd X d_Law_law_660 ?_
  refine go_scr X ZZ (by omega) (by omega) d_Law_law_661 ?_
  refine go_i2l X d_Law_law_662 (by have := hSr (i + 3); omega) ?_
  refine go_bipush (v := 32) X d_Law_law_663 (by decide) ?_
  refine go_lshl (z := lsh_ (scr_ xs (i + 3)) 32) X d_Law_law_665 (Int64.ofInt_toInt _).symm ?_
  refine go_aload_n X d_Law_law_666 rfl rfl ?_
  refine go_iload X d_Law_law_667 rfl ?_
  refine go_iconst (v := 4) X d_Law_law_669 ?_
  refine go_iadd X d_Law_law_670 ?_
  refine go_scr X ZZ (by omega) (by omega) d_Law_law_671 ?_
  refine go_i2l X d_Law_law_672 (by have := hSr (i + 4); omega) ?_
  refine go_ldc2 (x := 4294967295) X w_kl_Law_72 (by decide) d_Law_law_673 ?_
  refine go_land (z := lan_ (scr_ xs (i + 4)) 4294967295) X d_Law_law_676 (Int64.ofInt_toInt _).symm ?_
  refine go_lor (z := lor_ (lsh_ (scr_ xs (i + 3)) 32) (lan_ (scr_ xs (i + 4)) 4294967295)) X d_Law_law_677 (Int64.ofInt_toInt _).symm ?_
  obtain ⟨bb, S2, T2, eA, hth, hbv, hcp2⟩ := o_define (N := 100000) hcp (lor_rng _ _) (f := scr_ xs (i + 1)) (q := scr_ xs (i + 2)) (v := lor_ (lsh_ (scr_ xs (i + 3)) 32) (lan_ (scr_ xs (i + 4)) 4294967295))
  refine go_cV (st2 := []) (r := []) X k_Law_119 (a_define l D hmq1 (hSr _) (hSr _) (lor_rng _ _) eA) hmq1.1.1 rfl rfl (by omega) (Nat.le_of_ble_eq_true rfl) d_Law_law_678 (by omega) (by omega) (fun v' sh' M2 sz2 hp => ?_)
  obtain ⟨e4, e5, e6, hbr, hmq2⟩ := hp
  subst e4
  rw [e5, e6]
  show Go g (k + 1) (n + 6) sh1 M2 sz1 681 [(5, vi kd), (4, vi i), (3, vr (o + 276)), (2, vr (o + 247)), (1, vr o), (0, vr (b : Int))] [vi bb]
  have hthr2 : M2 (o + 247) 0 = kd := (hmq2.s 0).trans (hth.trans hkd.symm)
  have hb2 : kd = 0 → bb = vv := fun q => (hbv (hkd.symm.trans q)).trans hvv.symm
  have hv2 : kd = 0 → M2 (o + 276) 0 = bb := fun q => by rw [hmq2.2.2.2 (o + 276) (by show ¬ (o + 247 ≤ o + 276 ∧ o + 276 ≤ o + 247 + 28); omega), hval q, ← hb2 q, wi32_id hbr]
  refine go_istore (lv' := [(6, vi bb), (5, vi kd), (4, vi i), (3, vr (o + 276)), (2, vr (o + 247)), (1, vr o), (0, vr (b : Int))]) X d_Law_law_681 (by decide) rfl ?_
  refine go_aload_n X d_Law_law_683 rfl rfl ?_
  refine go_cVf (st2 := [vi kd]) (r := []) X k_Law_80 (m_thrown l D hmq2.1.1 hthr2) hmq2.1.1 rfl rfl (by omega) (Nat.le_of_ble_eq_true rfl) d_Law_law_684 (by omega) (by omega) rfl ?_
  refine go_iload X d_Law_law_687 rfl ?_
  refine go_icmp_eq (tgt := 694) X d_Law_law_689 rfl (by omega) (by omega) (fun _ => ?_) (fun h9 => absurd (show kd = kd by omega) h9)
  refine go_iload X d_Law_law_694 rfl ?_
  refine go_if_ne (tgt := 711) X d_Law_law_696 rfl (by omega) (fun hq1 => ?_) (fun hq1 => ?_)
  · skip
    refine go_goto (tgt := 1224) X d_Law_law_711 rfl ?_
    refine go_lv (lv' := [(4, vi i), (3, vr (o + 276)), (2, vr (o + 247)), (1, vr o), (0, vr (b : Int))]) X [2, 3, 4, 5, 6] rfl ?_
    exact kont _ _ _ _ _ s.2.2.1.1 (by omega) (by omega) (by omega) (by omega) (LR.mk hcw1 hmq2 hcp2 (hok.def (lor_rng _ _)) hou1 (by omega) rfl)
  · skip
    have hv1 := hv2 hq1
    refine go_aload_n X d_Law_law_699 rfl rfl ?_
    refine go_iconst (v := 0) X d_Law_law_700 ?_
    refine go_lald X hou1 (by omega) (by omega) d_Law_law_701 ?_
    refine go_top (v' := vl bb) X (by rw [hv1]) ?_
    refine go_iload X d_Law_law_702 rfl ?_
    refine go_i2l X d_Law_law_704 (by omega) ?_
    refine go_lcmp X (by omega) (by omega) d_Law_law_705 ?_
    refine go_top (v' := vi 0) X (by rw [show bb = bb by omega, s_cmp_self]) ?_
    refine go_if_eq (tgt := 711) X d_Law_law_706 rfl (by omega) (fun _ => ?_) (fun h9 => absurd h9 (by decide))
    refine go_goto (tgt := 1224) X d_Law_law_711 rfl ?_
    refine go_lv (lv' := [(4, vi i), (3, vr (o + 276)), (2, vr (o + 247)), (1, vr o), (0, vr (b : Int))]) X [2, 3, 4, 5, 6] rfl ?_
    exact kont _ _ _ _ _ s.2.2.1.1 (by omega) (by omega) (by omega) (by omega) (LR.mk hcw1 hmq2 hcp2 (hok.def (lor_rng _ _)) hou1 (by omega) rfl)
set_option maxHeartbeats 4000000 in
set_option maxRecDepth 100000 in
theorem lg_clear {l : Launch} (hl : l.stackTraces = false) {D : va_G} {nm : String} {d mc ms : Nat} {sh0 : s_S} {sz0 : Int} {Po : s_Po} {g : g_X} {k n : Nat} (X : Cx l D code "CiteForgeLaw" nm 8 ret d mc ms sh0 sz0 Po g) {hh : List (Nat × Nat × Nat × Nat)} (YY : y_C sh0 sz0 hh g) (hd0 : 100 ≤ d) (hk0 : k + 100 ≤ mc) (hn0 : n + 6000 ≤ ms) {sh : s_S} {M : s_M} {sz o : Int} {s : rnT} {hd : Int} {ns : Int} {O : Int → Int} {Q : Int → Int} {Z : Int → Int} {nr : Int} {t : List Int} {WR : Int → Int} {YR : Int → List Int} {vR : List Int} {nc : Int} {m : Int} {WC : Int → Int} {L : Int → Int} {S : s_M} {T : Int → List Int} {i : Int} {b N : Nat} {xs : Nat → Int32} (ZZ : z_C b N xs g) (hcw : cwd sh M sz o s hd ns O Q Z nr t WR YR vR nc m WC L) (hmq : mq sh M M (o + 247) S) (hcp : cpl S T s ns O Q Z t nc m WC L) (hok : opk O Q Z) (hq : sh (o + 276) = some (.inr (.long, 1))) (hsz : o + 277 ≤ sz) (hln : 0 ≤ s.2.2.1.1 ∧ s.2.2.1.1 ≤ 2000000000) (hi : 0 ≤ i ∧ i + 5 ≤ N) (hN : N ≤ 100000) (kont : ∀ (k' n' : Nat) (sh' : s_S) (M' : s_M) (sz' a' : Int), k' ≤ k + 49 → n' ≤ n + 4374 → 0 ≤ a' → a' ≤ s.2.2.1.1 + 80000 → LR sh' M' sz' o a' → Go g k' n' sh' M' sz' 1224 [(4, vi i), (3, vr (o + 276)), (2, vr (o + 247)), (1, vr o), (0, vr (b : Int))] []) : Go g k n sh M sz 714 [(4, vi i), (3, vr (o + 276)), (2, vr (o + 247)), (1, vr o), (0, vr (b : Int))] [] := by
  have hSr := scr_rng xs
  refine go_aload_n X d_Law_law_714 rfl rfl ?_
  refine go_aload_n X d_Law_law_715 rfl rfl ?_
  refine go_iload X d_Law_law_716 rfl ?_
  refine go_iconst (v := 1) X d_Law_law_718 ?_
  refine go_iadd X d_Law_law_719 ?_
  refine go_scr X ZZ (by omega) (by omega) d_Law_law_720 ?_
  refine go_aload_n X d_Law_law_721 rfl rfl ?_
  refine go_callSW (r := []) (np := 3) X YY lw_clear_c lw_ini (by decide +kernel) lw_clear_l lw_clear_s (hg_clear l hl D hcw (hSr _) hok.2.2.2 hq (by omega) (by omega)) rfl rfl (by omega) (by decide) (by omega) (by omega) (Nat.le_of_ble_eq_true rfl) d_Law_law_722 (fun v' sh1 M1 sz1 hp => ?_)
  obtain ⟨kd, vv, hd', hkd, hvv, hkr, e1, hsh, hzz, hval, hcw1, f1⟩ := hp
  subst e1
  show Go g (k + 1) (n + 6) sh1 M1 sz1 725 [(4, vi i), (3, vr (o + 276)), (2, vr (o + 247)), (1, vr o), (0, vr (b : Int))] [vi kd]
  have hmq1 : mq sh1 M1 M1 (o + 247) S := hmq.mvo (fun z h1 h2 => ⟨hsh z (by omega), f1 z (by show ¬ ((o ≤ z ∧ z ≤ o + 246) ∨ z = o + 276 ∨ sz ≤ z); omega)⟩)
  have hou1 : sh1 (o + 276) = some (.inr (.long, 1)) := (hsh _ (by omega)).trans hq
  refine go_istore (lv' := [(5, vi kd), (4, vi i), (3, vr (o + 276)), (2, vr (o + 247)), (1, vr o), (0, vr (b : Int))]) X d_Law_law_725 (by decide) rfl ?_
  refine go_aload_n X d_Law_law_727 rfl rfl ?_
  refine go_aload_n X d_Law_law_728 rfl rfl ?_
  refine go_iload X d_Law_law_729 rfl ?_
  refine go_iconst (v := 1) X d_Law_law_731 ?_
  refine go_iadd X d_Law_law_732 ?_
  refine go_scr X ZZ (by omega) (by omega) d_Law_law_733 ?_
  obtain ⟨bb, S2, T2, eA, hth, hbv, hcp2⟩ := o_clear (N := 100000) hcp (f := scr_ xs (i + 1))
  refine go_cV (st2 := []) (r := []) X k_Law_122 (a_clear l D hmq1 (hSr _) eA) hmq1.1.1 rfl rfl (by omega) (Nat.le_of_ble_eq_true rfl) d_Law_law_734 (by omega) (by omega) (fun v' sh' M2 sz2 hp => ?_)
  obtain ⟨e4, e5, e6, hbr, hmq2⟩ := hp
  subst e4
  rw [e5, e6]
  show Go g (k + 1) (n + 6) sh1 M2 sz1 737 [(5, vi kd), (4, vi i), (3, vr (o + 276)), (2, vr (o + 247)), (1, vr o), (0, vr (b : Int))] [vi bb]
  have hthr2 : M2 (o + 247) 0 = kd := (hmq2.s 0).trans (hth.trans hkd.symm)
  have hb2 : kd = 0 → bb = vv := fun q => (hbv (hkd.symm.trans q)).trans hvv.symm
  have hv2 : kd = 0 → M2 (o + 276) 0 = bb := fun q => by rw [hmq2.2.2.2 (o + 276) (by show ¬ (o + 247 ≤ o + 276 ∧ o + 276 ≤ o + 247 + 28); omega), hval q, ← hb2 q, wi32_id hbr]
  refine go_istore (lv' := [(6, vi bb), (5, vi kd), (4, vi i), (3, vr (o + 276)), (2, vr (o + 247)), (1, vr o), (0, vr (b : Int))]) X d_Law_law_737 (by decide) rfl ?_
  refine go_aload_n X d_Law_law_739 rfl rfl ?_
  refine go_cVf (st2 := [vi kd]) (r := []) X k_Law_80 (m_thrown l D hmq2.1.1 hthr2) hmq2.1.1 rfl rfl (by omega) (Nat.le_of_ble_eq_true rfl) d_Law_law_740 (by omega) (by omega) rfl ?_
  refine go_iload X d_Law_law_743 rfl ?_
  refine go_icmp_eq (tgt := 750) X d_Law_law_745 rfl (by omega) (by omega) (fun _ => ?_) (fun h9 => absurd (show kd = kd by omega) h9)
  refine go_iload X d_Law_law_750 rfl ?_
  refine go_if_ne (tgt := 767) X d_Law_law_752 rfl (by omega) (fun hq1 => ?_) (fun hq1 => ?_)
  · skip
    refine go_goto (tgt := 1224) X d_Law_law_767 rfl ?_
    refine go_lv (lv' := [(4, vi i), (3, vr (o + 276)), (2, vr (o + 247)), (1, vr o), (0, vr (b : Int))]) X [2, 3, 4, 5, 6] rfl ?_
    exact kont _ _ _ _ _ s.2.2.1.1 (by omega) (by omega) (by omega) (by omega) (LR.mk hcw1 hmq2 hcp2 hok.clr hou1 (by omega) rfl)
  · skip
    have hv1 := hv2 hq1
    refine go_aload_n X d_Law_law_755 rfl rfl ?_
    refine go_iconst (v := 0) X d_Law_law_756 ?_
    refine go_lald X hou1 (by omega) (by omega) d_Law_law_757 ?_
    refine go_top (v' := vl bb) X (by rw [hv1]) ?_
    refine go_iload X d_Law_law_758 rfl ?_
    refine go_i2l X d_Law_law_760 (by omega) ?_
    refine go_lcmp X (by omega) (by omega) d_Law_law_761 ?_
    refine go_top (v' := vi 0) X (by rw [show bb = bb by omega, s_cmp_self]) ?_
    refine go_if_eq (tgt := 767) X d_Law_law_762 rfl (by omega) (fun _ => ?_) (fun h9 => absurd h9 (by decide))
    refine go_goto (tgt := 1224) X d_Law_law_767 rfl ?_
    refine go_lv (lv' := [(4, vi i), (3, vr (o + 276)), (2, vr (o + 247)), (1, vr o), (0, vr (b : Int))]) X [2, 3, 4, 5, 6] rfl ?_
    exact kont _ _ _ _ _ s.2.2.1.1 (by omega) (by omega) (by omega) (by omega) (LR.mk hcw1 hmq2 hcp2 hok.clr hou1 (by omega) rfl)
set_option maxHeartbeats 4000000 in
set_option maxRecDepth 100000 in
theorem lg_run {l : Launch} (hl : l.stackTraces = false) {D : va_G} {nm : String} {d mc ms : Nat} {sh0 : s_S} {sz0 : Int} {Po : s_Po} {g : g_X} {k n : Nat} (X : Cx l D code "CiteForgeLaw" nm 8 ret d mc ms sh0 sz0 Po g) {hh : List (Nat × Nat × Nat × Nat)} (YY : y_C sh0 sz0 hh g) (hd0 : 100 ≤ d) (hk0 : k + 100 ≤ mc) (hn0 : n + 6000 ≤ ms) {sh : s_S} {M : s_M} {sz o : Int} {s : rnT} {hd : Int} {ns : Int} {O : Int → Int} {Q : Int → Int} {Z : Int → Int} {nr : Int} {t : List Int} {WR : Int → Int} {YR : Int → List Int} {vR : List Int} {nc : Int} {m : Int} {WC : Int → Int} {L : Int → Int} {S : s_M} {T : Int → List Int} {i : Int} {b N : Nat} {xs : Nat → Int32} (ZZ : z_C b N xs g) (hcw : cwd sh M sz o s hd ns O Q Z nr t WR YR vR nc m WC L) (hmq : mq sh M M (o + 247) S) (hcp : cpl S T s ns O Q Z t nc m WC L) (hok : opk O Q Z) (hq : sh (o + 276) = some (.inr (.long, 1))) (hsz : o + 277 ≤ sz) (hln : 0 ≤ s.2.2.1.1 ∧ s.2.2.1.1 ≤ 2000000000) (hi : 0 ≤ i ∧ i + 5 ≤ N) (hN : N ≤ 100000) (kont : ∀ (k' n' : Nat) (sh' : s_S) (M' : s_M) (sz' a' : Int), k' ≤ k + 49 → n' ≤ n + 4374 → 0 ≤ a' → a' ≤ s.2.2.1.1 + 80000 → LR sh' M' sz' o a' → Go g k' n' sh' M' sz' 1224 [(4, vi i), (3, vr (o + 276)), (2, vr (o + 247)), (1, vr o), (0, vr (b : Int))] []) : Go g k n sh M sz 770 [(4, vi i), (3, vr (o + 276)), (2, vr (o + 247)), (1, vr o), (0, vr (b : Int))] [] := by
  have hSr := scr_rng xs
  have hrk : rok (zdn s) := ⟨by show (0 : Int) ≤ 0 ∧ (0 : Int) ≤ 400; decide, by show s.2.2.1.1 + 200 * (400 - 0) ≤ 2147000000; omega⟩
  refine go_aload_n X d_Law_law_770 rfl rfl ?_
  refine go_aload_n X d_Law_law_771 rfl rfl ?_
  refine go_iload X d_Law_law_772 rfl ?_
  refine go_iconst (v := 1) X d_Law_law_774 ?_
  refine go_iadd X d_Law_law_775 ?_
  refine go_scr X ZZ (by omega) (by omega) d_Law_law_776 ?_
  refine go_aload_n X d_Law_law_777 rfl rfl ?_
  refine go_iload X d_Law_law_778 rfl ?_
  refine go_iconst (v := 2) X d_Law_law_780 ?_
  refine go_iadd X d_Law_law_781 ?_
  refine go_scr X ZZ (by omega) (by omega) d_Law_law_782 ?_
  refine go_aload_n X d_Law_law_783 rfl rfl ?_
  have hk48 := kc_48 (b := (srn ns O Q Z L m (scr_ xs (i + 1)) (scr_ xs (i + 2)) s).2.2.2.1.1) hln.1
  refine go_callSW (r := []) (np := 4) X YY lw_run_c lw_ini (by decide +kernel) lw_run_l lw_run_s (hg_run l hl D hcw (hSr _) (hSr _) hok hrk hq (by omega) (by omega)) rfl rfl (by omega) (by decide) (by omega) (by omega) (Nat.le_of_ble_eq_true rfl) d_Law_law_784 (fun v' sh1 M1 sz1 hp => ?_)
  obtain ⟨kd, vv, hd', hkd, hvv, hkr, e1, hsh, hzz, hval, hcw1, f1⟩ := hp
  subst e1
  show Go g (k + (kc s.2.2.1.1 (srn ns O Q Z L m (scr_ xs (i + 1)) (scr_ xs (i + 2)) s).2.2.2.1.1 + 1)) (n + (91 * kc s.2.2.1.1 (srn ns O Q Z L m (scr_ xs (i + 1)) (scr_ xs (i + 2)) s).2.2.2.1.1 + 6)) sh1 M1 sz1 787 [(4, vi i), (3, vr (o + 276)), (2, vr (o + 247)), (1, vr o), (0, vr (b : Int))] [vi kd]
  have hmq1 : mq sh1 M1 M1 (o + 247) S := hmq.mvo (fun z h1 h2 => ⟨hsh z (by omega), f1 z (by show ¬ ((o ≤ z ∧ z ≤ o + 246) ∨ z = o + 276 ∨ sz ≤ z); omega)⟩)
  have hou1 : sh1 (o + 276) = some (.inr (.long, 1)) := (hsh _ (by omega)).trans hq
  refine go_istore (lv' := [(5, vi kd), (4, vi i), (3, vr (o + 276)), (2, vr (o + 247)), (1, vr o), (0, vr (b : Int))]) X d_Law_law_787 (by decide) rfl ?_
  refine go_aload_n X d_Law_law_789 rfl rfl ?_
  refine go_aload_n X d_Law_law_790 rfl rfl ?_
  refine go_iload X d_Law_law_791 rfl ?_
  refine go_iconst (v := 1) X d_Law_law_793 ?_
  refine go_iadd X d_Law_law_794 ?_
  refine go_scr X ZZ (by omega) (by omega) d_Law_law_795 ?_
  refine go_aload_n X d_Law_law_796 rfl rfl ?_
  refine go_iload X d_Law_law_797 rfl ?_
  refine go_iconst (v := 2) X d_Law_law_799 ?_
  refine go_iadd X d_Law_law_800 ?_
  refine go_scr X ZZ (by omega) (by omega) d_Law_law_801 ?_
  obtain ⟨bb, S2, T2, eA, hth, hbv, hcp2⟩ := o_run (N := 100000) (by decide) hcp hrk (f := scr_ xs (i + 1)) (y := scr_ xs (i + 2))
  refine go_cV (st2 := []) (r := []) X k_Law_126 (a_run l D hmq1 (hSr _) (hSr _) eA) hmq1.1.1 rfl rfl (by omega) (Nat.le_of_ble_eq_true rfl) d_Law_law_802 (by omega) (by omega) (fun v' sh' M2 sz2 hp => ?_)
  obtain ⟨e4, e5, e6, hbr, hmq2⟩ := hp
  subst e4
  rw [e5, e6]
  show Go g (k + (kc s.2.2.1.1 (srn ns O Q Z L m (scr_ xs (i + 1)) (scr_ xs (i + 2)) s).2.2.2.1.1 + 1)) (n + (91 * kc s.2.2.1.1 (srn ns O Q Z L m (scr_ xs (i + 1)) (scr_ xs (i + 2)) s).2.2.2.1.1 + 6)) sh1 M2 sz1 805 [(5, vi kd), (4, vi i), (3, vr (o + 276)), (2, vr (o + 247)), (1, vr o), (0, vr (b : Int))] [vi bb]
  have hthr2 : M2 (o + 247) 0 = kd := (hmq2.s 0).trans (hth.trans hkd.symm)
  have hb2 : kd = 0 → bb = vv := fun q => (hbv (hkd.symm.trans q)).trans hvv.symm
  have hv2 : kd = 0 → M2 (o + 276) 0 = bb := fun q => by rw [hmq2.2.2.2 (o + 276) (by show ¬ (o + 247 ≤ o + 276 ∧ o + 276 ≤ o + 247 + 28); omega), hval q, ← hb2 q, wi32_id hbr]
  refine go_istore (lv' := [(6, vi bb), (5, vi kd), (4, vi i), (3, vr (o + 276)), (2, vr (o + 247)), (1, vr o), (0, vr (b : Int))]) X d_Law_law_805 (by decide) rfl ?_
  refine go_aload_n X d_Law_law_807 rfl rfl ?_
  refine go_cVf (st2 := [vi kd]) (r := []) X k_Law_80 (m_thrown l D hmq2.1.1 hthr2) hmq2.1.1 rfl rfl (by omega) (Nat.le_of_ble_eq_true rfl) d_Law_law_808 (by omega) (by omega) rfl ?_
  refine go_iload X d_Law_law_811 rfl ?_
  refine go_icmp_eq (tgt := 818) X d_Law_law_813 rfl (by omega) (by omega) (fun _ => ?_) (fun h9 => absurd (show kd = kd by omega) h9)
  refine go_iload X d_Law_law_818 rfl ?_
  refine go_if_ne (tgt := 835) X d_Law_law_820 rfl (by omega) (fun hq1 => ?_) (fun hq1 => ?_)
  · skip
    refine go_goto (tgt := 1224) X d_Law_law_835 rfl ?_
    refine go_lv (lv' := [(4, vi i), (3, vr (o + 276)), (2, vr (o + 247)), (1, vr o), (0, vr (b : Int))]) X [2, 3, 4, 5, 6] rfl ?_
    have hsr := srn_ln (ns := ns) (O := O) (Q := Q) (Z := Z) (L := L) (m := m) (f := scr_ xs (i + 1)) (y := scr_ xs (i + 2)) (s := s)
    exact kont _ _ _ _ _ _ (by omega) (by omega) (by split <;> omega) (by split <;> omega) (LR.mk hcw1 hmq2 hcp2 hok hou1 (by omega) rfl)
  · skip
    have hv1 := hv2 hq1
    refine go_aload_n X d_Law_law_823 rfl rfl ?_
    refine go_iconst (v := 0) X d_Law_law_824 ?_
    refine go_lald X hou1 (by omega) (by omega) d_Law_law_825 ?_
    refine go_top (v' := vl bb) X (by rw [hv1]) ?_
    refine go_iload X d_Law_law_826 rfl ?_
    refine go_i2l X d_Law_law_828 (by omega) ?_
    refine go_lcmp X (by omega) (by omega) d_Law_law_829 ?_
    refine go_top (v' := vi 0) X (by rw [show bb = bb by omega, s_cmp_self]) ?_
    refine go_if_eq (tgt := 835) X d_Law_law_830 rfl (by omega) (fun _ => ?_) (fun h9 => absurd h9 (by decide))
    refine go_goto (tgt := 1224) X d_Law_law_835 rfl ?_
    refine go_lv (lv' := [(4, vi i), (3, vr (o + 276)), (2, vr (o + 247)), (1, vr o), (0, vr (b : Int))]) X [2, 3, 4, 5, 6] rfl ?_
    have hsr := srn_ln (ns := ns) (O := O) (Q := Q) (Z := Z) (L := L) (m := m) (f := scr_ xs (i + 1)) (y := scr_ xs (i + 2)) (s := s)
    exact kont _ _ _ _ _ _ (by omega) (by omega) (by split <;> omega) (by split <;> omega) (LR.mk hcw1 hmq2 hcp2 hok hou1 (by omega) rfl)
set_option maxHeartbeats 4000000 in
set_option maxRecDepth 100000 in
theorem lg_depth {l : Launch} (hl : l.stackTraces = false) {D : va_G} {nm : String} {d mc ms : Nat} {sh0 : s_S} {sz0 : Int} {Po : s_Po} {g : g_X} {k n : Nat} (X : Cx l D code "CiteForgeLaw" nm 8 ret d mc ms sh0 sz0 Po g) {hh : List (Nat × Nat × Nat × Nat)} (YY : y_C sh0 sz0 hh g) (hd0 : 100 ≤ d) (hk0 : k + 100 ≤ mc) (hn0 : n + 6000 ≤ ms) {sh : s_S} {M : s_M} {sz o : Int} {s : rnT} {hd : Int} {ns : Int} {O : Int → Int} {Q : Int → Int} {Z : Int → Int} {nr : Int} {t : List Int} {WR : Int → Int} {YR : Int → List Int} {vR : List Int} {nc : Int} {m : Int} {WC : Int → Int} {L : Int → Int} {S : s_M} {T : Int → List Int} {i : Int} {b N : Nat} {xs : Nat → Int32} (ZZ : z_C b N xs g) (hcw : cwd sh M sz o s hd ns O Q Z nr t WR YR vR nc m WC L) (hmq : mq sh M M (o + 247) S) (hcp : cpl S T s ns O Q Z t nc m WC L) (hok : opk O Q Z) (hq : sh (o + 276) = some (.inr (.long, 1))) (hsz : o + 277 ≤ sz) (hln : 0 ≤ s.2.2.1.1 ∧ s.2.2.1.1 ≤ 2000000000) (hi : 0 ≤ i ∧ i + 5 ≤ N) (hN : N ≤ 100000) (kont : ∀ (k' n' : Nat) (sh' : s_S) (M' : s_M) (sz' a' : Int), k' ≤ k + 49 → n' ≤ n + 4374 → 0 ≤ a' → a' ≤ s.2.2.1.1 + 80000 → LR sh' M' sz' o a' → Go g k' n' sh' M' sz' 1224 [(4, vi i), (3, vr (o + 276)), (2, vr (o + 247)), (1, vr o), (0, vr (b : Int))] []) : Go g k n sh M sz 838 [(4, vi i), (3, vr (o + 276)), (2, vr (o + 247)), (1, vr o), (0, vr (b : Int))] [] := by
  have hSr := scr_rng xs
  refine go_aload_n X d_Law_law_838 rfl rfl ?_
  refine go_cV (st2 := []) (r := []) X k_Law_127 (g_depth l D hcw) hcw.1.1 rfl rfl (by omega) (Nat.le_of_ble_eq_true rfl) d_Law_law_839 (by omega) (by omega) (fun v' sh' M1 sz1 hp => ?_)
  obtain ⟨-, e1, e2, e3, hcw1, f1⟩ := hp
  obtain ⟨vv, hvv⟩ : ∃ vv : Int, vv = s.1.2.1 := ⟨_, rfl⟩
  rw [← hvv] at e1
  subst e1
  rw [e2, e3]
  show Go g k n sh M1 sz 842 [(4, vi i), (3, vr (o + 276)), (2, vr (o + 247)), (1, vr o), (0, vr (b : Int))] [vi vv]
  have hmq1 : mq sh M1 M1 (o + 247) S := hmq.mvo (fun z h1 h2 => ⟨rfl, f1 z (by show ¬ (o ≤ z ∧ z ≤ o + 246); omega)⟩)
  have hou1 := hq
  have hzz := Int.le_refl sz
  refine go_aload_n X d_Law_law_842 rfl rfl ?_
  obtain ⟨bb, S2, T2, eA, hth, hbv, hcp2⟩ := o_depth (N := 100000) hcp 
  refine go_cV (st2 := []) (r := [vi vv]) X k_Law_130 (a_depth l D hmq1  eA) hmq1.1.1 rfl rfl (by omega) (Nat.le_of_ble_eq_true rfl) d_Law_law_843 (by omega) (by omega) (fun v' sh' M2 sz2 hp => ?_)
  obtain ⟨e4, e5, e6, hbr, hmq2⟩ := hp
  subst e4
  rw [e5, e6]
  show Go g k n sh M2 sz 846 [(4, vi i), (3, vr (o + 276)), (2, vr (o + 247)), (1, vr o), (0, vr (b : Int))] [vi bb, vi vv]
  have hb1 : bb = vv := (hbv rfl).trans hvv.symm
  refine go_icmp_eq (tgt := 1224) X d_Law_law_846 rfl (by omega) (by omega) (fun _ => ?_) (fun h9 => absurd (show vv = bb by omega) h9)
  refine go_lv (lv' := [(4, vi i), (3, vr (o + 276)), (2, vr (o + 247)), (1, vr o), (0, vr (b : Int))]) X [0, 1, 2, 3, 4] rfl ?_
  exact kont _ _ _ _ _ s.2.2.1.1 (by omega) (by omega) (by omega) (by omega) (LR.mk hcw1 hmq2 hcp2 hok hou1 (by omega) rfl)
set_option maxHeartbeats 4000000 in
set_option maxRecDepth 100000 in
theorem lg_kind {l : Launch} (hl : l.stackTraces = false) {D : va_G} {nm : String} {d mc ms : Nat} {sh0 : s_S} {sz0 : Int} {Po : s_Po} {g : g_X} {k n : Nat} (X : Cx l D code "CiteForgeLaw" nm 8 ret d mc ms sh0 sz0 Po g) {hh : List (Nat × Nat × Nat × Nat)} (YY : y_C sh0 sz0 hh g) (hd0 : 100 ≤ d) (hk0 : k + 100 ≤ mc) (hn0 : n + 6000 ≤ ms) {sh : s_S} {M : s_M} {sz o : Int} {s : rnT} {hd : Int} {ns : Int} {O : Int → Int} {Q : Int → Int} {Z : Int → Int} {nr : Int} {t : List Int} {WR : Int → Int} {YR : Int → List Int} {vR : List Int} {nc : Int} {m : Int} {WC : Int → Int} {L : Int → Int} {S : s_M} {T : Int → List Int} {i : Int} {b N : Nat} {xs : Nat → Int32} (ZZ : z_C b N xs g) (hcw : cwd sh M sz o s hd ns O Q Z nr t WR YR vR nc m WC L) (hmq : mq sh M M (o + 247) S) (hcp : cpl S T s ns O Q Z t nc m WC L) (hok : opk O Q Z) (hq : sh (o + 276) = some (.inr (.long, 1))) (hsz : o + 277 ≤ sz) (hln : 0 ≤ s.2.2.1.1 ∧ s.2.2.1.1 ≤ 2000000000) (hi : 0 ≤ i ∧ i + 5 ≤ N) (hN : N ≤ 100000) (kont : ∀ (k' n' : Nat) (sh' : s_S) (M' : s_M) (sz' a' : Int), k' ≤ k + 49 → n' ≤ n + 4374 → 0 ≤ a' → a' ≤ s.2.2.1.1 + 80000 → LR sh' M' sz' o a' → Go g k' n' sh' M' sz' 1224 [(4, vi i), (3, vr (o + 276)), (2, vr (o + 247)), (1, vr o), (0, vr (b : Int))] []) : Go g k n sh M sz 851 [(4, vi i), (3, vr (o + 276)), (2, vr (o + 247)), (1, vr o), (0, vr (b : Int))] [] := by
  have hSr := scr_rng xs
  refine go_aload_n X d_Law_law_851 rfl rfl ?_
  refine go_aload_n X d_Law_law_852 rfl rfl ?_
  refine go_iload X d_Law_law_853 rfl ?_
  refine go_iconst (v := 1) X d_Law_law_855 ?_
  refine go_iadd X d_Law_law_856 ?_
  refine go_scr X ZZ (by omega) (by omega) d_Law_law_857 ?_
  refine go_aload_n X d_Law_law_858 rfl rfl ?_
  refine go_callSW (r := []) (np := 3) X YY lw_kind_c lw_ini (by decide +kernel) lw_kind_l lw_kind_s (hg_kind l hl D hcw (hSr _) hq (by omega) (by omega)) rfl rfl (by omega) (by decide) (by omega) (by omega) (Nat.le_of_ble_eq_true rfl) d_Law_law_859 (fun v' sh1 M1 sz1 hp => ?_)
  obtain ⟨kd, vv, hd', hkd, hvv, hkr, e1, hsh, hzz, hval, hcw1, f1⟩ := hp
  subst e1
  show Go g (k + 1) (n + 6) sh1 M1 sz1 862 [(4, vi i), (3, vr (o + 276)), (2, vr (o + 247)), (1, vr o), (0, vr (b : Int))] [vi kd]
  have hmq1 : mq sh1 M1 M1 (o + 247) S := hmq.mvo (fun z h1 h2 => ⟨hsh z (by omega), f1 z (by show ¬ ((o ≤ z ∧ z ≤ o + 246) ∨ z = o + 276 ∨ sz ≤ z); omega)⟩)
  have hou1 : sh1 (o + 276) = some (.inr (.long, 1)) := (hsh _ (by omega)).trans hq
  refine go_istore (lv' := [(5, vi kd), (4, vi i), (3, vr (o + 276)), (2, vr (o + 247)), (1, vr o), (0, vr (b : Int))]) X d_Law_law_862 (by decide) rfl ?_
  refine go_aload_n X d_Law_law_864 rfl rfl ?_
  refine go_aload_n X d_Law_law_865 rfl rfl ?_
  refine go_iload X d_Law_law_866 rfl ?_
  refine go_iconst (v := 1) X d_Law_law_868 ?_
  refine go_iadd X d_Law_law_869 ?_
  refine go_scr X ZZ (by omega) (by omega) d_Law_law_870 ?_
  obtain ⟨bb, S2, T2, eA, hth, hbv, hcp2⟩ := o_kind (N := 100000) hcp (i := scr_ xs (i + 1))
  refine go_cV (st2 := []) (r := []) X k_Law_133 (a_kind l D hmq1 (hSr _) eA) hmq1.1.1 rfl rfl (by omega) (Nat.le_of_ble_eq_true rfl) d_Law_law_871 (by omega) (by omega) (fun v' sh' M2 sz2 hp => ?_)
  obtain ⟨e4, e5, e6, hbr, hmq2⟩ := hp
  subst e4
  rw [e5, e6]
  show Go g (k + 1) (n + 6) sh1 M2 sz1 874 [(5, vi kd), (4, vi i), (3, vr (o + 276)), (2, vr (o + 247)), (1, vr o), (0, vr (b : Int))] [vi bb]
  have hthr2 : M2 (o + 247) 0 = kd := (hmq2.s 0).trans (hth.trans hkd.symm)
  have hb2 : kd = 0 → bb = vv := fun q => (hbv (hkd.symm.trans q)).trans hvv.symm
  have hv2 : kd = 0 → M2 (o + 276) 0 = bb := fun q => by rw [hmq2.2.2.2 (o + 276) (by show ¬ (o + 247 ≤ o + 276 ∧ o + 276 ≤ o + 247 + 28); omega), hval q, ← hb2 q, wi32_id hbr]
  refine go_istore (lv' := [(6, vi bb), (5, vi kd), (4, vi i), (3, vr (o + 276)), (2, vr (o + 247)), (1, vr o), (0, vr (b : Int))]) X d_Law_law_874 (by decide) rfl ?_
  refine go_aload_n X d_Law_law_876 rfl rfl ?_
  refine go_cVf (st2 := [vi kd]) (r := []) X k_Law_80 (m_thrown l D hmq2.1.1 hthr2) hmq2.1.1 rfl rfl (by omega) (Nat.le_of_ble_eq_true rfl) d_Law_law_877 (by omega) (by omega) rfl ?_
  refine go_iload X d_Law_law_880 rfl ?_
  refine go_icmp_eq (tgt := 887) X d_Law_law_882 rfl (by omega) (by omega) (fun _ => ?_) (fun h9 => absurd (show kd = kd by omega) h9)
  refine go_iload X d_Law_law_887 rfl ?_
  refine go_if_ne (tgt := 904) X d_Law_law_889 rfl (by omega) (fun hq1 => ?_) (fun hq1 => ?_)
  · skip
    refine go_goto (tgt := 1224) X d_Law_law_904 rfl ?_
    refine go_lv (lv' := [(4, vi i), (3, vr (o + 276)), (2, vr (o + 247)), (1, vr o), (0, vr (b : Int))]) X [2, 3, 4, 5, 6] rfl ?_
    exact kont _ _ _ _ _ s.2.2.1.1 (by omega) (by omega) (by omega) (by omega) (LR.mk hcw1 hmq2 hcp2 hok hou1 (by omega) rfl)
  · skip
    have hv1 := hv2 hq1
    refine go_aload_n X d_Law_law_892 rfl rfl ?_
    refine go_iconst (v := 0) X d_Law_law_893 ?_
    refine go_lald X hou1 (by omega) (by omega) d_Law_law_894 ?_
    refine go_top (v' := vl bb) X (by rw [hv1]) ?_
    refine go_iload X d_Law_law_895 rfl ?_
    refine go_i2l X d_Law_law_897 (by omega) ?_
    refine go_lcmp X (by omega) (by omega) d_Law_law_898 ?_
    refine go_top (v' := vi 0) X (by rw [show bb = bb by omega, s_cmp_self]) ?_
    refine go_if_eq (tgt := 904) X d_Law_law_899 rfl (by omega) (fun _ => ?_) (fun h9 => absurd h9 (by decide))
    refine go_goto (tgt := 1224) X d_Law_law_904 rfl ?_
    refine go_lv (lv' := [(4, vi i), (3, vr (o + 276)), (2, vr (o + 247)), (1, vr o), (0, vr (b : Int))]) X [2, 3, 4, 5, 6] rfl ?_
    exact kont _ _ _ _ _ s.2.2.1.1 (by omega) (by omega) (by omega) (by omega) (LR.mk hcw1 hmq2 hcp2 hok hou1 (by omega) rfl)
set_option maxHeartbeats 4000000 in
set_option maxRecDepth 100000 in
theorem lg_value {l : Launch} (hl : l.stackTraces = false) {D : va_G} {nm : String} {d mc ms : Nat} {sh0 : s_S} {sz0 : Int} {Po : s_Po} {g : g_X} {k n : Nat} (X : Cx l D code "CiteForgeLaw" nm 8 ret d mc ms sh0 sz0 Po g) {hh : List (Nat × Nat × Nat × Nat)} (YY : y_C sh0 sz0 hh g) (hd0 : 100 ≤ d) (hk0 : k + 100 ≤ mc) (hn0 : n + 6000 ≤ ms) {sh : s_S} {M : s_M} {sz o : Int} {s : rnT} {hd : Int} {ns : Int} {O : Int → Int} {Q : Int → Int} {Z : Int → Int} {nr : Int} {t : List Int} {WR : Int → Int} {YR : Int → List Int} {vR : List Int} {nc : Int} {m : Int} {WC : Int → Int} {L : Int → Int} {S : s_M} {T : Int → List Int} {i : Int} {b N : Nat} {xs : Nat → Int32} (ZZ : z_C b N xs g) (hcw : cwd sh M sz o s hd ns O Q Z nr t WR YR vR nc m WC L) (hmq : mq sh M M (o + 247) S) (hcp : cpl S T s ns O Q Z t nc m WC L) (hok : opk O Q Z) (hq : sh (o + 276) = some (.inr (.long, 1))) (hsz : o + 277 ≤ sz) (hln : 0 ≤ s.2.2.1.1 ∧ s.2.2.1.1 ≤ 2000000000) (hi : 0 ≤ i ∧ i + 5 ≤ N) (hN : N ≤ 100000) (kont : ∀ (k' n' : Nat) (sh' : s_S) (M' : s_M) (sz' a' : Int), k' ≤ k + 49 → n' ≤ n + 4374 → 0 ≤ a' → a' ≤ s.2.2.1.1 + 80000 → LR sh' M' sz' o a' → Go g k' n' sh' M' sz' 1224 [(4, vi i), (3, vr (o + 276)), (2, vr (o + 247)), (1, vr o), (0, vr (b : Int))] []) : Go g k n sh M sz 907 [(4, vi i), (3, vr (o + 276)), (2, vr (o + 247)), (1, vr o), (0, vr (b : Int))] [] := by
  have hSr := scr_rng xs
  refine go_aload_n X d_Law_law_907 rfl rfl ?_
  refine go_aload_n X d_Law_law_908 rfl rfl ?_
  refine go_iload X d_Law_law_909 rfl ?_
  refine go_iconst (v := 1) X d_Law_law_911 ?_
  refine go_iadd X d_Law_law_912 ?_
  refine go_scr X ZZ (by omega) (by omega) d_Law_law_913 ?_
  refine go_aload_n X d_Law_law_914 rfl rfl ?_
  refine go_callSW (r := []) (np := 3) X YY lw_value_c lw_ini (by decide +kernel) lw_value_l lw_value_s (hg_value l hl D hcw (hSr _) hq (by omega) (by omega)) rfl rfl (by omega) (by decide) (by omega) (by omega) (Nat.le_of_ble_eq_true rfl) d_Law_law_915 (fun v' sh1 M1 sz1 hp => ?_)
  obtain ⟨kd, vv, hd', hkd, hvv, hkr, e1, hsh, hzz, hval, hcw1, f1⟩ := hp
  subst e1
  show Go g (k + 1) (n + 6) sh1 M1 sz1 918 [(4, vi i), (3, vr (o + 276)), (2, vr (o + 247)), (1, vr o), (0, vr (b : Int))] [vi kd]
  have hmq1 : mq sh1 M1 M1 (o + 247) S := hmq.mvo (fun z h1 h2 => ⟨hsh z (by omega), f1 z (by show ¬ ((o ≤ z ∧ z ≤ o + 246) ∨ z = o + 276 ∨ sz ≤ z); omega)⟩)
  have hou1 : sh1 (o + 276) = some (.inr (.long, 1)) := (hsh _ (by omega)).trans hq
  refine go_istore (lv' := [(5, vi kd), (4, vi i), (3, vr (o + 276)), (2, vr (o + 247)), (1, vr o), (0, vr (b : Int))]) X d_Law_law_918 (by decide) rfl ?_
  refine go_aload_n X d_Law_law_920 rfl rfl ?_
  refine go_aload_n X d_Law_law_921 rfl rfl ?_
  refine go_iload X d_Law_law_922 rfl ?_
  refine go_iconst (v := 1) X d_Law_law_924 ?_
  refine go_iadd X d_Law_law_925 ?_
  refine go_scr X ZZ (by omega) (by omega) d_Law_law_926 ?_
  obtain ⟨bb, S2, T2, eA, hth, hbv, hcp2⟩ := o_value (N := 100000) hcp (i := scr_ xs (i + 1))
  refine go_cV (st2 := []) (r := []) X k_Law_136 (a_value l D hmq1 (hSr _) eA) hmq1.1.1 rfl rfl (by omega) (Nat.le_of_ble_eq_true rfl) d_Law_law_927 (by omega) (by omega) (fun v' sh' M2 sz2 hp => ?_)
  obtain ⟨e4, e5, e6, hbr, hmq2⟩ := hp
  subst e4
  rw [e5, e6]
  show Go g (k + 1) (n + 6) sh1 M2 sz1 930 [(5, vi kd), (4, vi i), (3, vr (o + 276)), (2, vr (o + 247)), (1, vr o), (0, vr (b : Int))] [vi bb]
  have hthr2 : M2 (o + 247) 0 = kd := (hmq2.s 0).trans (hth.trans hkd.symm)
  have hb2 : kd = 0 → bb = vv := fun q => (hbv (hkd.symm.trans q)).trans hvv.symm
  have hv2 : kd = 0 → M2 (o + 276) 0 = bb := fun q => by rw [hmq2.2.2.2 (o + 276) (by show ¬ (o + 247 ≤ o + 276 ∧ o + 276 ≤ o + 247 + 28); omega), hval q, ← hb2 q, wi32_id hbr]
  refine go_istore (lv' := [(6, vi bb), (5, vi kd), (4, vi i), (3, vr (o + 276)), (2, vr (o + 247)), (1, vr o), (0, vr (b : Int))]) X d_Law_law_930 (by decide) rfl ?_
  refine go_aload_n X d_Law_law_932 rfl rfl ?_
  refine go_cVf (st2 := [vi kd]) (r := []) X k_Law_80 (m_thrown l D hmq2.1.1 hthr2) hmq2.1.1 rfl rfl (by omega) (Nat.le_of_ble_eq_true rfl) d_Law_law_933 (by omega) (by omega) rfl ?_
  refine go_iload X d_Law_law_936 rfl ?_
  refine go_icmp_eq (tgt := 943) X d_Law_law_938 rfl (by omega) (by omega) (fun _ => ?_) (fun h9 => absurd (show kd = kd by omega) h9)
  refine go_iload X d_Law_law_943 rfl ?_
  refine go_if_ne (tgt := 960) X d_Law_law_945 rfl (by omega) (fun hq1 => ?_) (fun hq1 => ?_)
  · skip
    refine go_goto (tgt := 1224) X d_Law_law_960 rfl ?_
    refine go_lv (lv' := [(4, vi i), (3, vr (o + 276)), (2, vr (o + 247)), (1, vr o), (0, vr (b : Int))]) X [2, 3, 4, 5, 6] rfl ?_
    exact kont _ _ _ _ _ s.2.2.1.1 (by omega) (by omega) (by omega) (by omega) (LR.mk hcw1 hmq2 hcp2 hok hou1 (by omega) rfl)
  · skip
    have hv1 := hv2 hq1
    refine go_aload_n X d_Law_law_948 rfl rfl ?_
    refine go_iconst (v := 0) X d_Law_law_949 ?_
    refine go_lald X hou1 (by omega) (by omega) d_Law_law_950 ?_
    refine go_top (v' := vl bb) X (by rw [hv1]) ?_
    refine go_iload X d_Law_law_951 rfl ?_
    refine go_i2l X d_Law_law_953 (by omega) ?_
    refine go_lcmp X (by omega) (by omega) d_Law_law_954 ?_
    refine go_top (v' := vi 0) X (by rw [show bb = bb by omega, s_cmp_self]) ?_
    refine go_if_eq (tgt := 960) X d_Law_law_955 rfl (by omega) (fun _ => ?_) (fun h9 => absurd h9 (by decide))
    refine go_goto (tgt := 1224) X d_Law_law_960 rfl ?_
    refine go_lv (lv' := [(4, vi i), (3, vr (o + 276)), (2, vr (o + 247)), (1, vr o), (0, vr (b : Int))]) X [2, 3, 4, 5, 6] rfl ?_
    exact kont _ _ _ _ _ s.2.2.1.1 (by omega) (by omega) (by omega) (by omega) (LR.mk hcw1 hmq2 hcp2 hok hou1 (by omega) rfl)
set_option maxHeartbeats 4000000 in
set_option maxRecDepth 100000 in
theorem lg_letter {l : Launch} (hl : l.stackTraces = false) {D : va_G} {nm : String} {d mc ms : Nat} {sh0 : s_S} {sz0 : Int} {Po : s_Po} {g : g_X} {k n : Nat} (X : Cx l D code "CiteForgeLaw" nm 8 ret d mc ms sh0 sz0 Po g) {hh : List (Nat × Nat × Nat × Nat)} (YY : y_C sh0 sz0 hh g) (hd0 : 100 ≤ d) (hk0 : k + 100 ≤ mc) (hn0 : n + 6000 ≤ ms) {sh : s_S} {M : s_M} {sz o : Int} {s : rnT} {hd : Int} {ns : Int} {O : Int → Int} {Q : Int → Int} {Z : Int → Int} {nr : Int} {t : List Int} {WR : Int → Int} {YR : Int → List Int} {vR : List Int} {nc : Int} {m : Int} {WC : Int → Int} {L : Int → Int} {S : s_M} {T : Int → List Int} {i : Int} {b N : Nat} {xs : Nat → Int32} (ZZ : z_C b N xs g) (hcw : cwd sh M sz o s hd ns O Q Z nr t WR YR vR nc m WC L) (hmq : mq sh M M (o + 247) S) (hcp : cpl S T s ns O Q Z t nc m WC L) (hok : opk O Q Z) (hq : sh (o + 276) = some (.inr (.long, 1))) (hsz : o + 277 ≤ sz) (hln : 0 ≤ s.2.2.1.1 ∧ s.2.2.1.1 ≤ 2000000000) (hi : 0 ≤ i ∧ i + 5 ≤ N) (hN : N ≤ 100000) (kont : ∀ (k' n' : Nat) (sh' : s_S) (M' : s_M) (sz' a' : Int), k' ≤ k + 49 → n' ≤ n + 4374 → 0 ≤ a' → a' ≤ s.2.2.1.1 + 80000 → LR sh' M' sz' o a' → Go g k' n' sh' M' sz' 1224 [(4, vi i), (3, vr (o + 276)), (2, vr (o + 247)), (1, vr o), (0, vr (b : Int))] []) : Go g k n sh M sz 963 [(4, vi i), (3, vr (o + 276)), (2, vr (o + 247)), (1, vr o), (0, vr (b : Int))] [] := by
  have hSr := scr_rng xs
  refine go_aload_n X d_Law_law_963 rfl rfl ?_
  refine go_aload_n X d_Law_law_964 rfl rfl ?_
  refine go_iload X d_Law_law_965 rfl ?_
  refine go_iconst (v := 1) X d_Law_law_967 ?_
  refine go_iadd X d_Law_law_968 ?_
  refine go_scr X ZZ (by omega) (by omega) d_Law_law_969 ?_
  refine go_aload_n X d_Law_law_970 rfl rfl ?_
  refine go_iload X d_Law_law_971 rfl ?_
  refine go_iconst (v := 2) X d_Law_law_973 ?_
  refine go_iadd X d_Law_law_974 ?_
  refine go_scr X ZZ (by omega) (by omega) d_Law_law_975 ?_
  refine go_aload_n X d_Law_law_976 rfl rfl ?_
  refine go_callSW (r := []) (np := 4) X YY lw_letter_c lw_ini (by decide +kernel) lw_letter_l lw_letter_s (hg_letter l hl D hcw (hSr _) (hSr _) hq (by omega) (by omega)) rfl rfl (by omega) (by decide) (by omega) (by omega) (Nat.le_of_ble_eq_true rfl) d_Law_law_977 (fun v' sh1 M1 sz1 hp => ?_)
  obtain ⟨kd, vv, hd', hkd, hvv, hkr, e1, hsh, hzz, hval, hcw1, f1⟩ := hp
  subst e1
  show Go g (k + 1) (n + 6) sh1 M1 sz1 980 [(4, vi i), (3, vr (o + 276)), (2, vr (o + 247)), (1, vr o), (0, vr (b : Int))] [vi kd]
  have hmq1 : mq sh1 M1 M1 (o + 247) S := hmq.mvo (fun z h1 h2 => ⟨hsh z (by omega), f1 z (by show ¬ ((o ≤ z ∧ z ≤ o + 246) ∨ z = o + 276 ∨ sz ≤ z); omega)⟩)
  have hou1 : sh1 (o + 276) = some (.inr (.long, 1)) := (hsh _ (by omega)).trans hq
  refine go_istore (lv' := [(5, vi kd), (4, vi i), (3, vr (o + 276)), (2, vr (o + 247)), (1, vr o), (0, vr (b : Int))]) X d_Law_law_980 (by decide) rfl ?_
  refine go_aload_n X d_Law_law_982 rfl rfl ?_
  refine go_aload_n X d_Law_law_983 rfl rfl ?_
  refine go_iload X d_Law_law_984 rfl ?_
  refine go_iconst (v := 1) X d_Law_law_986 ?_
  refine go_iadd X d_Law_law_987 ?_
  refine go_scr X ZZ (by omega) (by omega) d_Law_law_988 ?_
  refine go_aload_n X d_Law_law_989 rfl rfl ?_
  refine go_iload X d_Law_law_990 rfl ?_
  refine go_iconst (v := 2) X d_Law_law_992 ?_
  refine go_iadd X d_Law_law_993 ?_
  refine go_scr X ZZ (by omega) (by omega) d_Law_law_994 ?_
  obtain ⟨bb, S2, T2, eA, hth, hbv, hcp2⟩ := o_letter (N := 100000) hcp (i := scr_ xs (i + 1)) (j := scr_ xs (i + 2))
  refine go_cV (st2 := []) (r := []) X k_Law_139 (a_letter l D hmq1 (hSr _) (hSr _) eA) hmq1.1.1 rfl rfl (by omega) (Nat.le_of_ble_eq_true rfl) d_Law_law_995 (by omega) (by omega) (fun v' sh' M2 sz2 hp => ?_)
  obtain ⟨e4, e5, e6, hbr, hmq2⟩ := hp
  subst e4
  rw [e5, e6]
  show Go g (k + 1) (n + 6) sh1 M2 sz1 998 [(5, vi kd), (4, vi i), (3, vr (o + 276)), (2, vr (o + 247)), (1, vr o), (0, vr (b : Int))] [vi bb]
  have hthr2 : M2 (o + 247) 0 = kd := (hmq2.s 0).trans (hth.trans hkd.symm)
  have hb2 : kd = 0 → bb = vv := fun q => (hbv (hkd.symm.trans q)).trans hvv.symm
  have hv2 : kd = 0 → M2 (o + 276) 0 = bb := fun q => by rw [hmq2.2.2.2 (o + 276) (by show ¬ (o + 247 ≤ o + 276 ∧ o + 276 ≤ o + 247 + 28); omega), hval q, ← hb2 q, wi32_id hbr]
  refine go_istore (lv' := [(6, vi bb), (5, vi kd), (4, vi i), (3, vr (o + 276)), (2, vr (o + 247)), (1, vr o), (0, vr (b : Int))]) X d_Law_law_998 (by decide) rfl ?_
  refine go_aload_n X d_Law_law_1000 rfl rfl ?_
  refine go_cVf (st2 := [vi kd]) (r := []) X k_Law_80 (m_thrown l D hmq2.1.1 hthr2) hmq2.1.1 rfl rfl (by omega) (Nat.le_of_ble_eq_true rfl) d_Law_law_1001 (by omega) (by omega) rfl ?_
  refine go_iload X d_Law_law_1004 rfl ?_
  refine go_icmp_eq (tgt := 1011) X d_Law_law_1006 rfl (by omega) (by omega) (fun _ => ?_) (fun h9 => absurd (show kd = kd by omega) h9)
  refine go_iload X d_Law_law_1011 rfl ?_
  refine go_if_ne (tgt := 1028) X d_Law_law_1013 rfl (by omega) (fun hq1 => ?_) (fun hq1 => ?_)
  · skip
    refine go_goto (tgt := 1224) X d_Law_law_1028 rfl ?_
    refine go_lv (lv' := [(4, vi i), (3, vr (o + 276)), (2, vr (o + 247)), (1, vr o), (0, vr (b : Int))]) X [2, 3, 4, 5, 6] rfl ?_
    exact kont _ _ _ _ _ s.2.2.1.1 (by omega) (by omega) (by omega) (by omega) (LR.mk hcw1 hmq2 hcp2 hok hou1 (by omega) rfl)
  · skip
    have hv1 := hv2 hq1
    refine go_aload_n X d_Law_law_1016 rfl rfl ?_
    refine go_iconst (v := 0) X d_Law_law_1017 ?_
    refine go_lald X hou1 (by omega) (by omega) d_Law_law_1018 ?_
    refine go_top (v' := vl bb) X (by rw [hv1]) ?_
    refine go_iload X d_Law_law_1019 rfl ?_
    refine go_i2l X d_Law_law_1021 (by omega) ?_
    refine go_lcmp X (by omega) (by omega) d_Law_law_1022 ?_
    refine go_top (v' := vi 0) X (by rw [show bb = bb by omega, s_cmp_self]) ?_
    refine go_if_eq (tgt := 1028) X d_Law_law_1023 rfl (by omega) (fun _ => ?_) (fun h9 => absurd h9 (by decide))
    refine go_goto (tgt := 1224) X d_Law_law_1028 rfl ?_
    refine go_lv (lv' := [(4, vi i), (3, vr (o + 276)), (2, vr (o + 247)), (1, vr o), (0, vr (b : Int))]) X [2, 3, 4, 5, 6] rfl ?_
    exact kont _ _ _ _ _ s.2.2.1.1 (by omega) (by omega) (by omega) (by omega) (LR.mk hcw1 hmq2 hcp2 hok hou1 (by omega) rfl)
set_option maxHeartbeats 4000000 in
set_option maxRecDepth 100000 in
theorem lg_empty {l : Launch} (hl : l.stackTraces = false) {D : va_G} {nm : String} {d mc ms : Nat} {sh0 : s_S} {sz0 : Int} {Po : s_Po} {g : g_X} {k n : Nat} (X : Cx l D code "CiteForgeLaw" nm 8 ret d mc ms sh0 sz0 Po g) {hh : List (Nat × Nat × Nat × Nat)} (YY : y_C sh0 sz0 hh g) (hd0 : 100 ≤ d) (hk0 : k + 100 ≤ mc) (hn0 : n + 6000 ≤ ms) {sh : s_S} {M : s_M} {sz o : Int} {s : rnT} {hd : Int} {ns : Int} {O : Int → Int} {Q : Int → Int} {Z : Int → Int} {nr : Int} {t : List Int} {WR : Int → Int} {YR : Int → List Int} {vR : List Int} {nc : Int} {m : Int} {WC : Int → Int} {L : Int → Int} {S : s_M} {T : Int → List Int} {i : Int} {b N : Nat} {xs : Nat → Int32} (ZZ : z_C b N xs g) (hcw : cwd sh M sz o s hd ns O Q Z nr t WR YR vR nc m WC L) (hmq : mq sh M M (o + 247) S) (hcp : cpl S T s ns O Q Z t nc m WC L) (hok : opk O Q Z) (hq : sh (o + 276) = some (.inr (.long, 1))) (hsz : o + 277 ≤ sz) (hln : 0 ≤ s.2.2.1.1 ∧ s.2.2.1.1 ≤ 2000000000) (hi : 0 ≤ i ∧ i + 5 ≤ N) (hN : N ≤ 100000) (kont : ∀ (k' n' : Nat) (sh' : s_S) (M' : s_M) (sz' a' : Int), k' ≤ k + 49 → n' ≤ n + 4374 → 0 ≤ a' → a' ≤ s.2.2.1.1 + 80000 → LR sh' M' sz' o a' → Go g k' n' sh' M' sz' 1224 [(4, vi i), (3, vr (o + 276)), (2, vr (o + 247)), (1, vr o), (0, vr (b : Int))] []) : Go g k n sh M sz 1031 [(4, vi i), (3, vr (o + 276)), (2, vr (o + 247)), (1, vr o), (0, vr (b : Int))] [] := by
  have hSr := scr_rng xs
  refine go_aload_n X d_Law_law_1031 rfl rfl ?_
  refine go_cV (st2 := []) (r := []) X k_Law_140 (g_empty l D hcw) hcw.1.1 rfl rfl (by omega) (Nat.le_of_ble_eq_true rfl) d_Law_law_1032 (by omega) (by omega) (fun v' sh' M1 sz1 hp => ?_)
  obtain ⟨-, e1, e2, e3, hcw1, f1⟩ := hp
  obtain ⟨vv, hvv⟩ : ∃ vv : Int, vv = s.1.2.1 := ⟨_, rfl⟩
  rw [← hvv] at e1
  subst e1
  rw [e2, e3]
  show Go g k n sh M1 sz 1035 [(4, vi i), (3, vr (o + 276)), (2, vr (o + 247)), (1, vr o), (0, vr (b : Int))] [vi vv]
  have hmq1 : mq sh M1 M1 (o + 247) S := hmq.mvo (fun z h1 h2 => ⟨rfl, f1 z (by show ¬ (o ≤ z ∧ z ≤ o + 246); omega)⟩)
  have hou1 := hq
  have hzz := Int.le_refl sz
  refine go_aload_n X d_Law_law_1035 rfl rfl ?_
  obtain ⟨bb, S2, T2, eA, hth, hbv, hcp2⟩ := o_empty (N := 100000) hcp 
  refine go_cV (st2 := []) (r := [vi vv]) X k_Law_143 (a_empty l D hmq1  eA) hmq1.1.1 rfl rfl (by omega) (Nat.le_of_ble_eq_true rfl) d_Law_law_1036 (by omega) (by omega) (fun v' sh' M2 sz2 hp => ?_)
  obtain ⟨e4, e5, e6, hbr, hmq2⟩ := hp
  subst e4
  rw [e5, e6]
  show Go g k n sh M2 sz 1039 [(4, vi i), (3, vr (o + 276)), (2, vr (o + 247)), (1, vr o), (0, vr (b : Int))] [vi bb, vi vv]
  have hb1 : bb = vv := (hbv rfl).trans hvv.symm
  refine go_icmp_eq (tgt := 1224) X d_Law_law_1039 rfl (by omega) (by omega) (fun _ => ?_) (fun h9 => absurd (show vv = bb by omega) h9)
  refine go_lv (lv' := [(4, vi i), (3, vr (o + 276)), (2, vr (o + 247)), (1, vr o), (0, vr (b : Int))]) X [0, 1, 2, 3, 4] rfl ?_
  exact kont _ _ _ _ _ s.2.2.1.1 (by omega) (by omega) (by omega) (by omega) (LR.mk hcw1 hmq2 hcp2 hok hou1 (by omega) rfl)
set_option maxHeartbeats 4000000 in
set_option maxRecDepth 100000 in
theorem lg_line {l : Launch} (hl : l.stackTraces = false) {D : va_G} {nm : String} {d mc ms : Nat} {sh0 : s_S} {sz0 : Int} {Po : s_Po} {g : g_X} {k n : Nat} (X : Cx l D code "CiteForgeLaw" nm 8 ret d mc ms sh0 sz0 Po g) {hh : List (Nat × Nat × Nat × Nat)} (YY : y_C sh0 sz0 hh g) (hd0 : 100 ≤ d) (hk0 : k + 100 ≤ mc) (hn0 : n + 6000 ≤ ms) {sh : s_S} {M : s_M} {sz o : Int} {s : rnT} {hd : Int} {ns : Int} {O : Int → Int} {Q : Int → Int} {Z : Int → Int} {nr : Int} {t : List Int} {WR : Int → Int} {YR : Int → List Int} {vR : List Int} {nc : Int} {m : Int} {WC : Int → Int} {L : Int → Int} {S : s_M} {T : Int → List Int} {i : Int} {b N : Nat} {xs : Nat → Int32} (ZZ : z_C b N xs g) (hcw : cwd sh M sz o s hd ns O Q Z nr t WR YR vR nc m WC L) (hmq : mq sh M M (o + 247) S) (hcp : cpl S T s ns O Q Z t nc m WC L) (hok : opk O Q Z) (hq : sh (o + 276) = some (.inr (.long, 1))) (hsz : o + 277 ≤ sz) (hln : 0 ≤ s.2.2.1.1 ∧ s.2.2.1.1 ≤ 2000000000) (hi : 0 ≤ i ∧ i + 5 ≤ N) (hN : N ≤ 100000) (kont : ∀ (k' n' : Nat) (sh' : s_S) (M' : s_M) (sz' a' : Int), k' ≤ k + 49 → n' ≤ n + 4374 → 0 ≤ a' → a' ≤ s.2.2.1.1 + 80000 → LR sh' M' sz' o a' → Go g k' n' sh' M' sz' 1224 [(4, vi i), (3, vr (o + 276)), (2, vr (o + 247)), (1, vr o), (0, vr (b : Int))] []) : Go g k n sh M sz 1044 [(4, vi i), (3, vr (o + 276)), (2, vr (o + 247)), (1, vr o), (0, vr (b : Int))] [] := by
  have hSr := scr_rng xs
  refine go_aload_n X d_Law_law_1044 rfl rfl ?_
  refine go_aload_n X d_Law_law_1045 rfl rfl ?_
  refine go_iload X d_Law_law_1046 rfl ?_
  refine go_iconst (v := 1) X d_Law_law_1048 ?_
  refine go_iadd X d_Law_law_1049 ?_
  refine go_scr X ZZ (by omega) (by omega) d_Law_law_1050 ?_
  refine go_aload_n X d_Law_law_1051 rfl rfl ?_
  refine go_iload X d_Law_law_1052 rfl ?_
  refine go_iconst (v := 2) X d_Law_law_1054 ?_
  refine go_iadd X d_Law_law_1055 ?_
  refine go_scr X ZZ (by omega) (by omega) d_Law_law_1056 ?_
  refine go_aload_n X d_Law_law_1057 rfl rfl ?_
  refine go_callSW (r := []) (np := 4) X YY lw_line_c lw_ini (by decide +kernel) lw_line_l lw_line_s (hg_line l hl D hcw (hSr _) (hSr _) (by omega) hq (by omega) (by omega)) rfl rfl (by omega) (by decide) (by omega) (by omega) (Nat.le_of_ble_eq_true rfl) d_Law_law_1058 (fun v' sh1 M1 sz1 hp => ?_)
  obtain ⟨kd, vv, hd', hkd, hvv, hkr, e1, hsh, hzz, hval, hcw1, f1⟩ := hp
  subst e1
  show Go g (k + 1) (n + 6) sh1 M1 sz1 1061 [(4, vi i), (3, vr (o + 276)), (2, vr (o + 247)), (1, vr o), (0, vr (b : Int))] [vi kd]
  have hmq1 : mq sh1 M1 M1 (o + 247) S := hmq.mvo (fun z h1 h2 => ⟨hsh z (by omega), f1 z (by show ¬ ((o ≤ z ∧ z ≤ o + 246) ∨ z = o + 276 ∨ sz ≤ z); omega)⟩)
  have hou1 : sh1 (o + 276) = some (.inr (.long, 1)) := (hsh _ (by omega)).trans hq
  refine go_istore (lv' := [(5, vi kd), (4, vi i), (3, vr (o + 276)), (2, vr (o + 247)), (1, vr o), (0, vr (b : Int))]) X d_Law_law_1061 (by decide) rfl ?_
  refine go_aload_n X d_Law_law_1063 rfl rfl ?_
  refine go_aload_n X d_Law_law_1064 rfl rfl ?_
  refine go_iload X d_Law_law_1065 rfl ?_
  refine go_iconst (v := 1) X d_Law_law_1067 ?_
  refine go_iadd X d_Law_law_1068 ?_
  refine go_scr X ZZ (by omega) (by omega) d_Law_law_1069 ?_
  refine go_aload_n X d_Law_law_1070 rfl rfl ?_
  refine go_iload X d_Law_law_1071 rfl ?_
  refine go_iconst (v := 2) X d_Law_law_1073 ?_
  refine go_iadd X d_Law_law_1074 ?_
  refine go_scr X ZZ (by omega) (by omega) d_Law_law_1075 ?_
  obtain ⟨bb, S2, T2, eA, hth, hbv, hcp2⟩ := o_line (N := 100000) hcp (i := scr_ xs (i + 1)) (j := scr_ xs (i + 2))
  refine go_cV (st2 := []) (r := []) X k_Law_146 (a_line l D hmq1 (hSr _) (hSr _) eA) hmq1.1.1 rfl rfl (by omega) (Nat.le_of_ble_eq_true rfl) d_Law_law_1076 (by omega) (by omega) (fun v' sh' M2 sz2 hp => ?_)
  obtain ⟨e4, e5, e6, hbr, hmq2⟩ := hp
  subst e4
  rw [e5, e6]
  show Go g (k + 1) (n + 6) sh1 M2 sz1 1079 [(5, vi kd), (4, vi i), (3, vr (o + 276)), (2, vr (o + 247)), (1, vr o), (0, vr (b : Int))] [vi bb]
  have hthr2 : M2 (o + 247) 0 = kd := (hmq2.s 0).trans (hth.trans hkd.symm)
  have hb2 : kd = 0 → bb = vv := fun q => (hbv (hkd.symm.trans q)).trans hvv.symm
  have hv2 : kd = 0 → M2 (o + 276) 0 = bb := fun q => by rw [hmq2.2.2.2 (o + 276) (by show ¬ (o + 247 ≤ o + 276 ∧ o + 276 ≤ o + 247 + 28); omega), hval q, ← hb2 q, wi32_id hbr]
  refine go_istore (lv' := [(6, vi bb), (5, vi kd), (4, vi i), (3, vr (o + 276)), (2, vr (o + 247)), (1, vr o), (0, vr (b : Int))]) X d_Law_law_1079 (by decide) rfl ?_
  refine go_aload_n X d_Law_law_1081 rfl rfl ?_
  refine go_cVf (st2 := [vi kd]) (r := []) X k_Law_80 (m_thrown l D hmq2.1.1 hthr2) hmq2.1.1 rfl rfl (by omega) (Nat.le_of_ble_eq_true rfl) d_Law_law_1082 (by omega) (by omega) rfl ?_
  refine go_iload X d_Law_law_1085 rfl ?_
  refine go_icmp_eq (tgt := 1092) X d_Law_law_1087 rfl (by omega) (by omega) (fun _ => ?_) (fun h9 => absurd (show kd = kd by omega) h9)
  refine go_iload X d_Law_law_1092 rfl ?_
  refine go_if_ne (tgt := 1109) X d_Law_law_1094 rfl (by omega) (fun hq1 => ?_) (fun hq1 => ?_)
  · skip
    refine go_goto (tgt := 1224) X d_Law_law_1109 rfl ?_
    refine go_lv (lv' := [(4, vi i), (3, vr (o + 276)), (2, vr (o + 247)), (1, vr o), (0, vr (b : Int))]) X [2, 3, 4, 5, 6] rfl ?_
    exact kont _ _ _ _ _ s.2.2.1.1 (by omega) (by omega) (by omega) (by omega) (LR.mk hcw1 hmq2 hcp2 hok hou1 (by omega) rfl)
  · skip
    have hv1 := hv2 hq1
    refine go_aload_n X d_Law_law_1097 rfl rfl ?_
    refine go_iconst (v := 0) X d_Law_law_1098 ?_
    refine go_lald X hou1 (by omega) (by omega) d_Law_law_1099 ?_
    refine go_top (v' := vl bb) X (by rw [hv1]) ?_
    refine go_iload X d_Law_law_1100 rfl ?_
    refine go_i2l X d_Law_law_1102 (by omega) ?_
    refine go_lcmp X (by omega) (by omega) d_Law_law_1103 ?_
    refine go_top (v' := vi 0) X (by rw [show bb = bb by omega, s_cmp_self]) ?_
    refine go_if_eq (tgt := 1109) X d_Law_law_1104 rfl (by omega) (fun _ => ?_) (fun h9 => absurd h9 (by decide))
    refine go_goto (tgt := 1224) X d_Law_law_1109 rfl ?_
    refine go_lv (lv' := [(4, vi i), (3, vr (o + 276)), (2, vr (o + 247)), (1, vr o), (0, vr (b : Int))]) X [2, 3, 4, 5, 6] rfl ?_
    exact kont _ _ _ _ _ s.2.2.1.1 (by omega) (by omega) (by omega) (by omega) (LR.mk hcw1 hmq2 hcp2 hok hou1 (by omega) rfl)
set_option maxHeartbeats 4000000 in
set_option maxRecDepth 100000 in
theorem lg_count {l : Launch} (hl : l.stackTraces = false) {D : va_G} {nm : String} {d mc ms : Nat} {sh0 : s_S} {sz0 : Int} {Po : s_Po} {g : g_X} {k n : Nat} (X : Cx l D code "CiteForgeLaw" nm 8 ret d mc ms sh0 sz0 Po g) {hh : List (Nat × Nat × Nat × Nat)} (YY : y_C sh0 sz0 hh g) (hd0 : 100 ≤ d) (hk0 : k + 100 ≤ mc) (hn0 : n + 6000 ≤ ms) {sh : s_S} {M : s_M} {sz o : Int} {s : rnT} {hd : Int} {ns : Int} {O : Int → Int} {Q : Int → Int} {Z : Int → Int} {nr : Int} {t : List Int} {WR : Int → Int} {YR : Int → List Int} {vR : List Int} {nc : Int} {m : Int} {WC : Int → Int} {L : Int → Int} {S : s_M} {T : Int → List Int} {i : Int} {b N : Nat} {xs : Nat → Int32} (ZZ : z_C b N xs g) (hcw : cwd sh M sz o s hd ns O Q Z nr t WR YR vR nc m WC L) (hmq : mq sh M M (o + 247) S) (hcp : cpl S T s ns O Q Z t nc m WC L) (hok : opk O Q Z) (hq : sh (o + 276) = some (.inr (.long, 1))) (hsz : o + 277 ≤ sz) (hln : 0 ≤ s.2.2.1.1 ∧ s.2.2.1.1 ≤ 2000000000) (hi : 0 ≤ i ∧ i + 5 ≤ N) (hN : N ≤ 100000) (kont : ∀ (k' n' : Nat) (sh' : s_S) (M' : s_M) (sz' a' : Int), k' ≤ k + 49 → n' ≤ n + 4374 → 0 ≤ a' → a' ≤ s.2.2.1.1 + 80000 → LR sh' M' sz' o a' → Go g k' n' sh' M' sz' 1224 [(4, vi i), (3, vr (o + 276)), (2, vr (o + 247)), (1, vr o), (0, vr (b : Int))] []) : Go g k n sh M sz 1112 [(4, vi i), (3, vr (o + 276)), (2, vr (o + 247)), (1, vr o), (0, vr (b : Int))] [] := by
  have hSr := scr_rng xs
  refine go_aload_n X d_Law_law_1112 rfl rfl ?_
  refine go_aload_n X d_Law_law_1113 rfl rfl ?_
  refine go_iload X d_Law_law_1114 rfl ?_
  refine go_iconst (v := 1) X d_Law_law_1116 ?_
  refine go_iadd X d_Law_law_1117 ?_
  refine go_scr X ZZ (by omega) (by omega) d_Law_law_1118 ?_
  refine go_aload_n X d_Law_law_1119 rfl rfl ?_
  refine go_callSW (r := []) (np := 3) X YY lw_count_c lw_ini (by decide +kernel) lw_count_l lw_count_s (hg_count l hl D hcw (hSr _) (by omega) hq (by omega) (by omega)) rfl rfl (by omega) (by decide) (by omega) (by omega) (Nat.le_of_ble_eq_true rfl) d_Law_law_1120 (fun v' sh1 M1 sz1 hp => ?_)
  obtain ⟨kd, vv, hd', hkd, hvv, hkr, e1, hsh, hzz, hval, hcw1, f1⟩ := hp
  subst e1
  show Go g (k + 1) (n + 6) sh1 M1 sz1 1123 [(4, vi i), (3, vr (o + 276)), (2, vr (o + 247)), (1, vr o), (0, vr (b : Int))] [vi kd]
  have hmq1 : mq sh1 M1 M1 (o + 247) S := hmq.mvo (fun z h1 h2 => ⟨hsh z (by omega), f1 z (by show ¬ ((o ≤ z ∧ z ≤ o + 246) ∨ z = o + 276 ∨ sz ≤ z); omega)⟩)
  have hou1 : sh1 (o + 276) = some (.inr (.long, 1)) := (hsh _ (by omega)).trans hq
  refine go_istore (lv' := [(5, vi kd), (4, vi i), (3, vr (o + 276)), (2, vr (o + 247)), (1, vr o), (0, vr (b : Int))]) X d_Law_law_1123 (by decide) rfl ?_
  refine go_aload_n X d_Law_law_1125 rfl rfl ?_
  refine go_aload_n X d_Law_law_1126 rfl rfl ?_
  refine go_iload X d_Law_law_1127 rfl ?_
  refine go_iconst (v := 1) X d_Law_law_1129 ?_
  refine go_iadd X d_Law_law_1130 ?_
  refine go_scr X ZZ (by omega) (by omega) d_Law_law_1131 ?_
  obtain ⟨bb, S2, T2, eA, hth, hbv, hcp2⟩ := o_count (N := 100000) hcp (i := scr_ xs (i + 1))
  refine go_cV (st2 := []) (r := []) X k_Law_149 (a_count l D hmq1 (hSr _) eA) hmq1.1.1 rfl rfl (by omega) (Nat.le_of_ble_eq_true rfl) d_Law_law_1132 (by omega) (by omega) (fun v' sh' M2 sz2 hp => ?_)
  obtain ⟨e4, e5, e6, hbr, hmq2⟩ := hp
  subst e4
  rw [e5, e6]
  show Go g (k + 1) (n + 6) sh1 M2 sz1 1135 [(5, vi kd), (4, vi i), (3, vr (o + 276)), (2, vr (o + 247)), (1, vr o), (0, vr (b : Int))] [vi bb]
  have hthr2 : M2 (o + 247) 0 = kd := (hmq2.s 0).trans (hth.trans hkd.symm)
  have hb2 : kd = 0 → bb = vv := fun q => (hbv (hkd.symm.trans q)).trans hvv.symm
  have hv2 : kd = 0 → M2 (o + 276) 0 = bb := fun q => by rw [hmq2.2.2.2 (o + 276) (by show ¬ (o + 247 ≤ o + 276 ∧ o + 276 ≤ o + 247 + 28); omega), hval q, ← hb2 q, wi32_id hbr]
  refine go_istore (lv' := [(6, vi bb), (5, vi kd), (4, vi i), (3, vr (o + 276)), (2, vr (o + 247)), (1, vr o), (0, vr (b : Int))]) X d_Law_law_1135 (by decide) rfl ?_
  refine go_aload_n X d_Law_law_1137 rfl rfl ?_
  refine go_cVf (st2 := [vi kd]) (r := []) X k_Law_80 (m_thrown l D hmq2.1.1 hthr2) hmq2.1.1 rfl rfl (by omega) (Nat.le_of_ble_eq_true rfl) d_Law_law_1138 (by omega) (by omega) rfl ?_
  refine go_iload X d_Law_law_1141 rfl ?_
  refine go_icmp_eq (tgt := 1148) X d_Law_law_1143 rfl (by omega) (by omega) (fun _ => ?_) (fun h9 => absurd (show kd = kd by omega) h9)
  refine go_iload X d_Law_law_1148 rfl ?_
  refine go_if_ne (tgt := 1165) X d_Law_law_1150 rfl (by omega) (fun hq1 => ?_) (fun hq1 => ?_)
  · skip
    refine go_goto (tgt := 1224) X d_Law_law_1165 rfl ?_
    refine go_lv (lv' := [(4, vi i), (3, vr (o + 276)), (2, vr (o + 247)), (1, vr o), (0, vr (b : Int))]) X [2, 3, 4, 5, 6] rfl ?_
    exact kont _ _ _ _ _ s.2.2.1.1 (by omega) (by omega) (by omega) (by omega) (LR.mk hcw1 hmq2 hcp2 hok hou1 (by omega) rfl)
  · skip
    have hv1 := hv2 hq1
    refine go_aload_n X d_Law_law_1153 rfl rfl ?_
    refine go_iconst (v := 0) X d_Law_law_1154 ?_
    refine go_lald X hou1 (by omega) (by omega) d_Law_law_1155 ?_
    refine go_top (v' := vl bb) X (by rw [hv1]) ?_
    refine go_iload X d_Law_law_1156 rfl ?_
    refine go_i2l X d_Law_law_1158 (by omega) ?_
    refine go_lcmp X (by omega) (by omega) d_Law_law_1159 ?_
    refine go_top (v' := vi 0) X (by rw [show bb = bb by omega, s_cmp_self]) ?_
    refine go_if_eq (tgt := 1165) X d_Law_law_1160 rfl (by omega) (fun _ => ?_) (fun h9 => absurd h9 (by decide))
    refine go_goto (tgt := 1224) X d_Law_law_1165 rfl ?_
    refine go_lv (lv' := [(4, vi i), (3, vr (o + 276)), (2, vr (o + 247)), (1, vr o), (0, vr (b : Int))]) X [2, 3, 4, 5, 6] rfl ?_
    exact kont _ _ _ _ _ s.2.2.1.1 (by omega) (by omega) (by omega) (by omega) (LR.mk hcw1 hmq2 hcp2 hok hou1 (by omega) rfl)
set_option maxHeartbeats 4000000 in
set_option maxRecDepth 100000 in
theorem lg_warnings {l : Launch} (hl : l.stackTraces = false) {D : va_G} {nm : String} {d mc ms : Nat} {sh0 : s_S} {sz0 : Int} {Po : s_Po} {g : g_X} {k n : Nat} (X : Cx l D code "CiteForgeLaw" nm 8 ret d mc ms sh0 sz0 Po g) {hh : List (Nat × Nat × Nat × Nat)} (YY : y_C sh0 sz0 hh g) (hd0 : 100 ≤ d) (hk0 : k + 100 ≤ mc) (hn0 : n + 6000 ≤ ms) {sh : s_S} {M : s_M} {sz o : Int} {s : rnT} {hd : Int} {ns : Int} {O : Int → Int} {Q : Int → Int} {Z : Int → Int} {nr : Int} {t : List Int} {WR : Int → Int} {YR : Int → List Int} {vR : List Int} {nc : Int} {m : Int} {WC : Int → Int} {L : Int → Int} {S : s_M} {T : Int → List Int} {i : Int} {b N : Nat} {xs : Nat → Int32} (ZZ : z_C b N xs g) (hcw : cwd sh M sz o s hd ns O Q Z nr t WR YR vR nc m WC L) (hmq : mq sh M M (o + 247) S) (hcp : cpl S T s ns O Q Z t nc m WC L) (hok : opk O Q Z) (hq : sh (o + 276) = some (.inr (.long, 1))) (hsz : o + 277 ≤ sz) (hln : 0 ≤ s.2.2.1.1 ∧ s.2.2.1.1 ≤ 2000000000) (hi : 0 ≤ i ∧ i + 5 ≤ N) (hN : N ≤ 100000) (kont : ∀ (k' n' : Nat) (sh' : s_S) (M' : s_M) (sz' a' : Int), k' ≤ k + 49 → n' ≤ n + 4374 → 0 ≤ a' → a' ≤ s.2.2.1.1 + 80000 → LR sh' M' sz' o a' → Go g k' n' sh' M' sz' 1224 [(4, vi i), (3, vr (o + 276)), (2, vr (o + 247)), (1, vr o), (0, vr (b : Int))] []) : Go g k n sh M sz 1168 [(4, vi i), (3, vr (o + 276)), (2, vr (o + 247)), (1, vr o), (0, vr (b : Int))] [] := by
  have hSr := scr_rng xs
  refine go_aload_n X d_Law_law_1168 rfl rfl ?_
  refine go_aload_n X d_Law_law_1169 rfl rfl ?_
  refine go_iload X d_Law_law_1170 rfl ?_
  refine go_iconst (v := 1) X d_Law_law_1172 ?_
  refine go_iadd X d_Law_law_1173 ?_
  refine go_scr X ZZ (by omega) (by omega) d_Law_law_1174 ?_
  refine go_aload_n X d_Law_law_1175 rfl rfl ?_
  refine go_callSW (r := []) (np := 3) X YY lw_warnings_c lw_ini (by decide +kernel) lw_warnings_l lw_warnings_s (hg_warnings l hl D hcw (hSr _) hq (by omega) (by omega)) rfl rfl (by omega) (by decide) (by omega) (by omega) (Nat.le_of_ble_eq_true rfl) d_Law_law_1176 (fun v' sh1 M1 sz1 hp => ?_)
  obtain ⟨kd, vv, hd', hkd, hvv, hkr, e1, hsh, hzz, hval, hcw1, f1⟩ := hp
  subst e1
  show Go g (k + 1) (n + 6) sh1 M1 sz1 1179 [(4, vi i), (3, vr (o + 276)), (2, vr (o + 247)), (1, vr o), (0, vr (b : Int))] [vi kd]
  have hmq1 : mq sh1 M1 M1 (o + 247) S := hmq.mvo (fun z h1 h2 => ⟨hsh z (by omega), f1 z (by show ¬ ((o ≤ z ∧ z ≤ o + 246) ∨ z = o + 276 ∨ sz ≤ z); omega)⟩)
  have hou1 : sh1 (o + 276) = some (.inr (.long, 1)) := (hsh _ (by omega)).trans hq
  refine go_istore (lv' := [(5, vi kd), (4, vi i), (3, vr (o + 276)), (2, vr (o + 247)), (1, vr o), (0, vr (b : Int))]) X d_Law_law_1179 (by decide) rfl ?_
  refine go_aload_n X d_Law_law_1181 rfl rfl ?_
  refine go_aload_n X d_Law_law_1182 rfl rfl ?_
  refine go_iload X d_Law_law_1183 rfl ?_
  refine go_iconst (v := 1) X d_Law_law_1185 ?_
  refine go_iadd X d_Law_law_1186 ?_
  refine go_scr X ZZ (by omega) (by omega) d_Law_law_1187 ?_
  obtain ⟨bb, S2, T2, eA, hth, hbv, hcp2⟩ := o_warnings (N := 100000) hcp (i := scr_ xs (i + 1))
  refine go_cV (st2 := []) (r := []) X k_Law_152 (a_warnings l D hmq1 (hSr _) eA) hmq1.1.1 rfl rfl (by omega) (Nat.le_of_ble_eq_true rfl) d_Law_law_1188 (by omega) (by omega) (fun v' sh' M2 sz2 hp => ?_)
  obtain ⟨e4, e5, e6, hbr, hmq2⟩ := hp
  subst e4
  rw [e5, e6]
  show Go g (k + 1) (n + 6) sh1 M2 sz1 1191 [(5, vi kd), (4, vi i), (3, vr (o + 276)), (2, vr (o + 247)), (1, vr o), (0, vr (b : Int))] [vi bb]
  have hthr2 : M2 (o + 247) 0 = kd := (hmq2.s 0).trans (hth.trans hkd.symm)
  have hb2 : kd = 0 → bb = vv := fun q => (hbv (hkd.symm.trans q)).trans hvv.symm
  have hv2 : kd = 0 → M2 (o + 276) 0 = bb := fun q => by rw [hmq2.2.2.2 (o + 276) (by show ¬ (o + 247 ≤ o + 276 ∧ o + 276 ≤ o + 247 + 28); omega), hval q, ← hb2 q, wi32_id hbr]
  refine go_istore (lv' := [(6, vi bb), (5, vi kd), (4, vi i), (3, vr (o + 276)), (2, vr (o + 247)), (1, vr o), (0, vr (b : Int))]) X d_Law_law_1191 (by decide) rfl ?_
  refine go_aload_n X d_Law_law_1193 rfl rfl ?_
  refine go_cVf (st2 := [vi kd]) (r := []) X k_Law_80 (m_thrown l D hmq2.1.1 hthr2) hmq2.1.1 rfl rfl (by omega) (Nat.le_of_ble_eq_true rfl) d_Law_law_1194 (by omega) (by omega) rfl ?_
  refine go_iload X d_Law_law_1197 rfl ?_
  refine go_icmp_eq (tgt := 1204) X d_Law_law_1199 rfl (by omega) (by omega) (fun _ => ?_) (fun h9 => absurd (show kd = kd by omega) h9)
  refine go_iload X d_Law_law_1204 rfl ?_
  refine go_if_ne (tgt := 1221) X d_Law_law_1206 rfl (by omega) (fun hq1 => ?_) (fun hq1 => ?_)
  · skip
    refine go_goto (tgt := 1224) X d_Law_law_1221 rfl ?_
    refine go_lv (lv' := [(4, vi i), (3, vr (o + 276)), (2, vr (o + 247)), (1, vr o), (0, vr (b : Int))]) X [2, 3, 4, 5, 6] rfl ?_
    exact kont _ _ _ _ _ s.2.2.1.1 (by omega) (by omega) (by omega) (by omega) (LR.mk hcw1 hmq2 hcp2 hok hou1 (by omega) rfl)
  · skip
    have hv1 := hv2 hq1
    refine go_aload_n X d_Law_law_1209 rfl rfl ?_
    refine go_iconst (v := 0) X d_Law_law_1210 ?_
    refine go_lald X hou1 (by omega) (by omega) d_Law_law_1211 ?_
    refine go_top (v' := vl bb) X (by rw [hv1]) ?_
    refine go_iload X d_Law_law_1212 rfl ?_
    refine go_i2l X d_Law_law_1214 (by omega) ?_
    refine go_lcmp X (by omega) (by omega) d_Law_law_1215 ?_
    refine go_top (v' := vi 0) X (by rw [show bb = bb by omega, s_cmp_self]) ?_
    refine go_if_eq (tgt := 1221) X d_Law_law_1216 rfl (by omega) (fun _ => ?_) (fun h9 => absurd h9 (by decide))
    refine go_goto (tgt := 1224) X d_Law_law_1221 rfl ?_
    refine go_lv (lv' := [(4, vi i), (3, vr (o + 276)), (2, vr (o + 247)), (1, vr o), (0, vr (b : Int))]) X [2, 3, 4, 5, 6] rfl ?_
    exact kont _ _ _ _ _ s.2.2.1.1 (by omega) (by omega) (by omega) (by omega) (LR.mk hcw1 hmq2 hcp2 hok hou1 (by omega) rfl)
