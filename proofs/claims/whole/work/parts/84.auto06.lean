def A_texts_j269 (N : Nat) (S : s_M) : rO := some (0, S)
theorem A_texts_j269_e (N : Nat) (S : s_M) : A_texts_j269 N S = (some (0, S)) := rfl
def A_texts_j231 (N : Nat) (x1 : Int) (S : s_M) : rO := if x1 = 29 then (bnd (A_number N S) fun v4 S5 => bnd (A_number N S5) fun v11 S12 => bnd (A_taken N 82 S12) fun v18 S19 => bnd (A_substring N v11 v4 S19) fun v25 S26 => bnd (A_giveText N 84 S26) fun v32 S33 => A_texts_j269 N  S33) else (A_texts_j269 N  S)
theorem A_texts_j231_e (N : Nat) (x1 : Int) (S : s_M) : A_texts_j231 N x1 S = (if x1 = 29 then (bnd (A_number N S) fun v4 S5 => bnd (A_number N S5) fun v11 S12 => bnd (A_taken N 82 S12) fun v18 S19 => bnd (A_substring N v11 v4 S19) fun v25 S26 => bnd (A_giveText N 84 S26) fun v32 S33 => A_texts_j269 N  S33) else (A_texts_j269 N  S)) := rfl
def A_texts_j201 (N : Nat) (x1 : Int) (S : s_M) : rO := if x1 = 28 then (bnd (A_number N S) fun v42 S43 => bnd (A_taken N 82 S43) fun v49 S50 => bnd (A_prefix N v42 S50) fun v56 S57 => bnd (A_giveText N 84 S57) fun v63 S64 => A_texts_j231 N x1 S64) else (A_texts_j231 N x1 S)
theorem A_texts_j201_e (N : Nat) (x1 : Int) (S : s_M) : A_texts_j201 N x1 S = (if x1 = 28 then (bnd (A_number N S) fun v42 S43 => bnd (A_taken N 82 S43) fun v49 S50 => bnd (A_prefix N v42 S50) fun v56 S57 => bnd (A_giveText N 84 S57) fun v63 S64 => A_texts_j231 N x1 S64) else (A_texts_j231 N x1 S)) := rfl
def A_texts_j186 (N : Nat) (k141 : Int → Int → Int → s_M → rO) (x1 x5 y0 y1 : Int) (S : s_M) : rO := chk (rI (y1 + y0)) <| chk (rI (x5 + 1)) <| k141 x1 (y1 + y0) (x5 + 1) S
theorem A_texts_j186_e (N : Nat) (k141 : Int → Int → Int → s_M → rO) (x1 x5 y0 y1 : Int) (S : s_M) : A_texts_j186 N k141 x1 x5 y0 y1 S = (chk (rI (y1 + y0)) <| chk (rI (x5 + 1)) <| k141 x1 (y1 + y0) (x5 + 1) S) := rfl
def A_texts_j181 (N : Nat) (k141 : Int → Int → Int → s_M → rO) (x1 x5 y0 : Int) (S : s_M) : rO := A_texts_j186 N k141 x1 x5 0 y0 S
theorem A_texts_j181_e (N : Nat) (k141 : Int → Int → Int → s_M → rO) (x1 x5 y0 : Int) (S : s_M) : A_texts_j181 N k141 x1 x5 y0 S = (A_texts_j186 N k141 x1 x5 0 y0 S) := rfl
def A_texts_l141 (N : Nat) : Nat → Int → Int → Int → s_M → rO
  | 0, _, _, _, _ => none
  | n + 1, x1, x4, x5, S => if x5 < (S 3 82) then (bnd (A_at N 82 x5 S) fun v84 S85 => if v84 = 123 then (A_texts_j181 N (A_texts_l141 N n) x1 x5 x4 S85) else (bnd (A_at N 82 x5 S85) fun v94 S95 => if v94 = 125 then (A_texts_j181 N (A_texts_l141 N n) x1 x5 x4 S95) else (A_texts_j186 N (A_texts_l141 N n) x1 x5 1 x4 S95))) else (bnd (A_giveNumber N x4 S) fun v76 S77 => A_texts_j201 N x1 S77)
theorem A_texts_l141_e (N : Nat) (n : Nat) (x1 x4 x5 : Int) (S : s_M) : A_texts_l141 N (n + 1) x1 x4 x5 S = (if x5 < (S 3 82) then (bnd (A_at N 82 x5 S) fun v84 S85 => if v84 = 123 then (A_texts_j181 N (A_texts_l141 N n) x1 x5 x4 S85) else (bnd (A_at N 82 x5 S85) fun v94 S95 => if v94 = 125 then (A_texts_j181 N (A_texts_l141 N n) x1 x5 x4 S95) else (A_texts_j186 N (A_texts_l141 N n) x1 x5 1 x4 S95))) else (bnd (A_giveNumber N x4 S) fun v76 S77 => A_texts_j201 N x1 S77)) := rfl
def A_texts_j123 (N : Nat) (x1 : Int) (S : s_M) : rO := if x1 = 27 then (bnd (A_taken N 82 S) fun v107 S108 => A_texts_l141 N N x1 0 0 S108) else (A_texts_j201 N x1 S)
theorem A_texts_j123_e (N : Nat) (x1 : Int) (S : s_M) : A_texts_j123 N x1 S = (if x1 = 27 then (bnd (A_taken N 82 S) fun v107 S108 => A_texts_l141 N N x1 0 0 S108) else (A_texts_j201 N x1 S)) := rfl
def A_texts_j117 (N : Nat) (x1 : Int) (S : s_M) : rO := bnd (A_giveText N 84 S) fun v114 S115 => A_texts_j123 N x1 S115
theorem A_texts_j117_e (N : Nat) (x1 : Int) (S : s_M) : A_texts_j117 N x1 S = (bnd (A_giveText N 84 S) fun v114 S115 => A_texts_j123 N x1 S115) := rfl
def A_texts_j78 (N : Nat) (x1 x2 : Int) (S : s_M) : rO := bnd (A_taken N 82 S) fun v121 S122 => if x1 = 25 then (bnd (A_capitals N (wi32 (if x2 < 0 then (0 : Int) else (l_mod x2 3))) S122) fun v140 S141 => A_texts_j117 N x1 S141) else (bnd (A_purified N S122) fun v130 S131 => A_texts_j117 N x1 S131)
theorem A_texts_j78_e (N : Nat) (x1 x2 : Int) (S : s_M) : A_texts_j78 N x1 x2 S = (bnd (A_taken N 82 S) fun v121 S122 => if x1 = 25 then (bnd (A_capitals N (wi32 (if x2 < 0 then (0 : Int) else (l_mod x2 3))) S122) fun v140 S141 => A_texts_j117 N x1 S141) else (bnd (A_purified N S122) fun v130 S131 => A_texts_j117 N x1 S131)) := rfl
def A_texts_j66 (N : Nat) (x1 x2 : Int) (S : s_M) : rO := if x1 = 25 then (A_texts_j78 N x1 x2 S) else (if x1 = 26 then (A_texts_j78 N x1 x2 S) else (A_texts_j123 N x1 S))
theorem A_texts_j66_e (N : Nat) (x1 x2 : Int) (S : s_M) : A_texts_j66 N x1 x2 S = (if x1 = 25 then (A_texts_j78 N x1 x2 S) else (if x1 = 26 then (A_texts_j78 N x1 x2 S) else (A_texts_j123 N x1 S))) := rfl
def A_texts_j20 (N : Nat) (x1 x2 : Int) (S : s_M) : rO := if x1 = 24 then (bnd (A_number N S) fun v156 S157 => bnd (A_taken N 82 S157) fun v163 S164 => bnd (A_person N v156 (wi32 (if x2 < 0 then (0 : Int) else (l_mod x2 4))) S164) fun v172 S173 => bnd (A_giveText N 84 S173) fun v179 S180 => A_texts_j66 N x1 x2 S180) else (A_texts_j66 N x1 x2 S)
theorem A_texts_j20_e (N : Nat) (x1 x2 : Int) (S : s_M) : A_texts_j20 N x1 x2 S = (if x1 = 24 then (bnd (A_number N S) fun v156 S157 => bnd (A_taken N 82 S157) fun v163 S164 => bnd (A_person N v156 (wi32 (if x2 < 0 then (0 : Int) else (l_mod x2 4))) S164) fun v172 S173 => bnd (A_giveText N 84 S173) fun v179 S180 => A_texts_j66 N x1 x2 S180) else (A_texts_j66 N x1 x2 S)) := rfl
def A_texts (N : Nat) (x1 x2 : Int) (S : s_M) : rO := if x1 = 23 then (bnd (A_taken N 82 S) fun v189 S190 => bnd (A_people N S190) fun v196 S197 => bnd (A_giveNumber N v196 S197) fun v203 S204 => A_texts_j20 N x1 x2 S204) else (A_texts_j20 N x1 x2 S)
theorem A_texts_e (N : Nat) (x1 x2 : Int) (S : s_M) : A_texts N x1 x2 S = (if x1 = 23 then (bnd (A_taken N 82 S) fun v189 S190 => bnd (A_people N S190) fun v196 S197 => bnd (A_giveNumber N v196 S197) fun v203 S204 => A_texts_j20 N x1 x2 S204) else (A_texts_j20 N x1 x2 S)) := rfl
set_option maxHeartbeats 4000000 in
set_option maxRecDepth 100000 in
theorem a_texts (l : Launch) (D : va_G) {sh : s_S} {M0 M : s_M} {sz r x1 x2 : Int} {N : Nat} {S S0 : s_M} {v0 : Int} (h : mq sh M0 M r S) (hx1 : rI x1) (hx2 : rL x2) (hF : A_texts N x1 x2 S = some (v0, S0)) : Sp l D y_Model_texts prog_14_method_66_code 6 none 6 0 0 [vr r, vi x1, vl x2] sh M sz (fun v' sh' M' sz' => v' = none ∧ sh' = sh ∧ sz' = sz ∧ mq sh M0 M' r S0) := by
  have hr0 := h.1.2.1
  refine Sp.ofGo (own := "CiteForgeModel") (nm := "texts") (by decide) rfl rfl (Nat.le_of_ble_eq_true rfl) (lv := [(0, vr r), (1, vi x1), (2, vl x2)]) rfl ?_
  intro g X
  have hJ269 : ∀ (S1 M1 : s_M), mq sh M0 M1 r S1 → A_texts_j269 N S1 = some (v0, S0) → Go g 0 0 sh M1 sz 269 [(0, vr r)] [] := by
    intro S1 M1 hm hF
    rw [A_texts_j269_e] at hF
    exact go_vret X d_Model_texts_269 rfl (by decide) (by decide) (ret_v hF hm)
  have hJ231 : ∀ (x1 : Int) (S1 M1 : s_M), rI x1 → mq sh M0 M1 r S1 → A_texts_j231 N x1 S1 = some (v0, S0) → Go g 0 0 sh M1 sz 231 [(0, vr r), (1, vi x1)] [] := by
    intro x1 S1 M1 hx1 hm hF
    rw [A_texts_j231_e] at hF
    refine go_iload_n X d_Model_texts_231 rfl rfl ?_
    refine go_bipush (v := 29) X d_Model_texts_232 (by decide) ?_
    refine go_icmp_ne (tgt := 269) X d_Model_texts_234 rfl hx1 (by decide) (fun hq1 => ?_) (fun hq1 => ?_)
    · skip
      have hF2 := if_f hF hq1
      refine go_lv (lv' := [(0, vr r)]) X [0] rfl ?_
      exact hJ269  S1 M1  hm hF2
    · skip
      have hF3 := if_t hF hq1
      refine go_aload_n X d_Model_texts_237 rfl rfl ?_
      obtain ⟨v4, S5, hG6, hF7⟩ := bnd_t hF3
      refine go_cV (st2 := []) (r := []) X k_Model_292 (a_number l D hm hG6) hm.1.1 rfl rfl (by decide) (Nat.le_of_ble_eq_true rfl) d_Model_texts_238 (by decide) (by decide) (fun v' sh' M8 sz' hpp => ?_)
      obtain ⟨e1, e2, e3, hv10, md9⟩ := hpp
      subst e1
      rw [e2, e3]
      clear e2 e3
      show Go g 0 0 sh M8 sz 241 [(0, vr r), (1, vi x1)] [vi v4]
      refine go_istore (lv' := [(4, vi v4), (0, vr r), (1, vi x1)]) X d_Model_texts_241 (by decide) rfl ?_
      refine go_aload_n X d_Model_texts_243 rfl rfl ?_
      obtain ⟨v11, S12, hG13, hF14⟩ := bnd_t hF7
      refine go_cV (st2 := []) (r := []) X k_Model_292 (a_number l D md9 hG13) md9.1.1 rfl rfl (by decide) (Nat.le_of_ble_eq_true rfl) d_Model_texts_244 (by decide) (by decide) (fun v' sh' M15 sz' hpp => ?_)
      obtain ⟨e1, e2, e3, hv17, md16⟩ := hpp
      subst e1
      rw [e2, e3]
      clear e2 e3
      show Go g 0 0 sh M15 sz 247 [(4, vi v4), (0, vr r), (1, vi x1)] [vi v11]
      refine go_istore (lv' := [(5, vi v11), (4, vi v4), (0, vr r), (1, vi x1)]) X d_Model_texts_247 (by decide) rfl ?_
      refine go_aload_n X d_Model_texts_249 rfl rfl ?_
      refine go_bipush (v := 82) X d_Model_texts_250 (by decide) ?_
      obtain ⟨v18, S19, hG20, hF21⟩ := bnd_t hF14
      refine go_cV (st2 := []) (r := []) X k_Model_286 (a_taken l D md16 (by decide) hG20) md16.1.1 rfl rfl (by decide) (Nat.le_of_ble_eq_true rfl) d_Model_texts_252 (by decide) (by decide) (fun v' sh' M22 sz' hpp => ?_)
      obtain ⟨e1, e2, e3, md23⟩ := hpp
      subst e1
      rw [e2, e3]
      clear e2 e3
      show Go g 0 0 sh M22 sz 255 [(5, vi v11), (4, vi v4), (0, vr r), (1, vi x1)] []
      refine go_aload_n X d_Model_texts_255 rfl rfl ?_
      refine go_iload X d_Model_texts_256 rfl ?_
      refine go_iload X d_Model_texts_258 rfl ?_
      obtain ⟨v25, S26, hG27, hF28⟩ := bnd_t hF21
      refine go_cV (st2 := []) (r := []) X k_Model_339 (a_substring l D md23 hv17 hv10 hG27) md23.1.1 rfl rfl (by decide) (Nat.le_of_ble_eq_true rfl) d_Model_texts_260 (by decide) (by decide) (fun v' sh' M29 sz' hpp => ?_)
      obtain ⟨e1, e2, e3, md30⟩ := hpp
      subst e1
      rw [e2, e3]
      clear e2 e3
      show Go g 0 0 sh M29 sz 263 [(5, vi v11), (4, vi v4), (0, vr r), (1, vi x1)] []
      refine go_aload_n X d_Model_texts_263 rfl rfl ?_
      refine go_bipush (v := 84) X d_Model_texts_264 (by decide) ?_
      obtain ⟨v32, S33, hG34, hF35⟩ := bnd_t hF28
      refine go_cV (st2 := []) (r := []) X k_Model_263 (a_giveText l D md30 (by decide) hG34) md30.1.1 rfl rfl (by decide) (Nat.le_of_ble_eq_true rfl) d_Model_texts_266 (by decide) (by decide) (fun v' sh' M36 sz' hpp => ?_)
      obtain ⟨e1, e2, e3, md37⟩ := hpp
      subst e1
      rw [e2, e3]
      clear e2 e3
      show Go g 0 0 sh M36 sz 269 [(5, vi v11), (4, vi v4), (0, vr r), (1, vi x1)] []
      refine go_lv (lv' := [(0, vr r)]) X [2] rfl ?_
      exact hJ269  S33 M36  md37 hF35
  have hJ201 : ∀ (x1 : Int) (S1 M1 : s_M), rI x1 → mq sh M0 M1 r S1 → A_texts_j201 N x1 S1 = some (v0, S0) → Go g 0 0 sh M1 sz 201 [(0, vr r), (1, vi x1)] [] := by
    intro x1 S1 M1 hx1 hm hF
    rw [A_texts_j201_e] at hF
    refine go_iload_n X d_Model_texts_201 rfl rfl ?_
    refine go_bipush (v := 28) X d_Model_texts_202 (by decide) ?_
    refine go_icmp_ne (tgt := 231) X d_Model_texts_204 rfl hx1 (by decide) (fun hq39 => ?_) (fun hq39 => ?_)
    · skip
      have hF40 := if_f hF hq39
      refine go_lv (lv' := [(0, vr r), (1, vi x1)]) X [0, 1] rfl ?_
      exact hJ231 x1 S1 M1 hx1 hm hF40
    · skip
      have hF41 := if_t hF hq39
      refine go_aload_n X d_Model_texts_207 rfl rfl ?_
      obtain ⟨v42, S43, hG44, hF45⟩ := bnd_t hF41
      refine go_cV (st2 := []) (r := []) X k_Model_292 (a_number l D hm hG44) hm.1.1 rfl rfl (by decide) (Nat.le_of_ble_eq_true rfl) d_Model_texts_208 (by decide) (by decide) (fun v' sh' M46 sz' hpp => ?_)
      obtain ⟨e1, e2, e3, hv48, md47⟩ := hpp
      subst e1
      rw [e2, e3]
      clear e2 e3
      show Go g 0 0 sh M46 sz 211 [(0, vr r), (1, vi x1)] [vi v42]
      refine go_istore (lv' := [(4, vi v42), (0, vr r), (1, vi x1)]) X d_Model_texts_211 (by decide) rfl ?_
      refine go_aload_n X d_Model_texts_213 rfl rfl ?_
      refine go_bipush (v := 82) X d_Model_texts_214 (by decide) ?_
      obtain ⟨v49, S50, hG51, hF52⟩ := bnd_t hF45
      refine go_cV (st2 := []) (r := []) X k_Model_286 (a_taken l D md47 (by decide) hG51) md47.1.1 rfl rfl (by decide) (Nat.le_of_ble_eq_true rfl) d_Model_texts_216 (by decide) (by decide) (fun v' sh' M53 sz' hpp => ?_)
      obtain ⟨e1, e2, e3, md54⟩ := hpp
      subst e1
      rw [e2, e3]
      clear e2 e3
      show Go g 0 0 sh M53 sz 219 [(4, vi v42), (0, vr r), (1, vi x1)] []
      refine go_aload_n X d_Model_texts_219 rfl rfl ?_
      refine go_iload X d_Model_texts_220 rfl ?_
      obtain ⟨v56, S57, hG58, hF59⟩ := bnd_t hF52
      refine go_cV (st2 := []) (r := []) X k_Model_336 (a_prefix l D md54 hv48 hG58) md54.1.1 rfl rfl (by decide) (Nat.le_of_ble_eq_true rfl) d_Model_texts_222 (by decide) (by decide) (fun v' sh' M60 sz' hpp => ?_)
      obtain ⟨e1, e2, e3, md61⟩ := hpp
      subst e1
      rw [e2, e3]
      clear e2 e3
      show Go g 0 0 sh M60 sz 225 [(4, vi v42), (0, vr r), (1, vi x1)] []
      refine go_aload_n X d_Model_texts_225 rfl rfl ?_
      refine go_bipush (v := 84) X d_Model_texts_226 (by decide) ?_
      obtain ⟨v63, S64, hG65, hF66⟩ := bnd_t hF59
      refine go_cV (st2 := []) (r := []) X k_Model_263 (a_giveText l D md61 (by decide) hG65) md61.1.1 rfl rfl (by decide) (Nat.le_of_ble_eq_true rfl) d_Model_texts_228 (by decide) (by decide) (fun v' sh' M67 sz' hpp => ?_)
      obtain ⟨e1, e2, e3, md68⟩ := hpp
      subst e1
      rw [e2, e3]
      clear e2 e3
      show Go g 0 0 sh M67 sz 231 [(4, vi v42), (0, vr r), (1, vi x1)] []
      refine go_lv (lv' := [(0, vr r), (1, vi x1)]) X [1, 2] rfl ?_
      exact hJ231 x1 S64 M67 hx1 md68 hF66
  have hL141 : ∀ (n141 : Nat) (x1 x4 x5 : Int) (S1 M1 : s_M), rI x1 → rI x4 → rI x5 → mq sh M0 M1 r S1 → A_texts_l141 N n141 x1 x4 x5 S1 = some (v0, S0) → Go g 0 0 sh M1 sz 141 [(0, vr r), (1, vi x1), (4, vi x4), (5, vi x5)] [] := by
    intro n141
    induction n141 with
    | zero => intro x1 x4 x5 S1 M1 hx1 hx4 hx5 hm hF; cases hF
    | succ n141 ih141 =>
      have hJ186 : ∀ (x1 x5 y0 y1 : Int) (S1 M1 : s_M), rI x1 → rI x5 → rI y0 → rI y1 → mq sh M0 M1 r S1 → A_texts_j186 N (A_texts_l141 N n141) x1 x5 y0 y1 S1 = some (v0, S0) → Go g 0 0 sh M1 sz 186 [(0, vr r), (1, vi x1), (5, vi x5)] [vi y0, vi y1] := by
        intro x1 x5 y0 y1 S1 M1 hx1 hx5 hy0 hy1 hm hF
        rw [A_texts_j186_e] at hF
        refine go_iadd X d_Model_texts_186 ?_
        obtain ⟨hc70, hF71⟩ := chk_t hF
        refine go_istore (lv' := [(4, vi (y1 + y0)), (0, vr r), (1, vi x1), (5, vi x5)]) X d_Model_texts_187 (by decide) rfl ?_
        obtain ⟨hc72, hF73⟩ := chk_t hF71
        refine go_iinc (v := 1) (x := x5) (lv' := [(5, vi (x5 + 1)), (4, vi (y1 + y0)), (0, vr r), (1, vi x1)]) X d_Model_texts_189 rfl (by decide) rfl ?_
        refine go_goto (tgt := 141) X d_Model_texts_192 rfl ?_
        refine go_lv (lv' := [(0, vr r), (1, vi x1), (4, vi (y1 + y0)), (5, vi (x5 + 1))]) X [2, 3, 1, 0] rfl ?_
        exact ih141 x1 (y1 + y0) (x5 + 1) S1 M1 hx1 hc70 hc72 hm hF73
      have hJ181 : ∀ (x1 x5 y0 : Int) (S1 M1 : s_M), rI x1 → rI x5 → rI y0 → mq sh M0 M1 r S1 → A_texts_j181 N (A_texts_l141 N n141) x1 x5 y0 S1 = some (v0, S0) → Go g 0 0 sh M1 sz 181 [(0, vr r), (1, vi x1), (5, vi x5)] [vi y0] := by
        intro x1 x5 y0 S1 M1 hx1 hx5 hy0 hm hF
        rw [A_texts_j181_e] at hF
        refine go_iconst (v := 0) X d_Model_texts_181 ?_
        refine go_goto (tgt := 186) X d_Model_texts_182 rfl ?_
        refine go_lv (lv' := [(0, vr r), (1, vi x1), (5, vi x5)]) X [0, 1, 2] rfl ?_
        exact hJ186 x1 x5 0 y0 S1 M1 hx1 hx5 (by decide) hy0 hm hF
      intro x1 x4 x5 S1 M1 hx1 hx4 hx5 hm hF
      rw [A_texts_l141_e] at hF
      refine go_iload X d_Model_texts_141 rfl ?_
      refine go_aload_n X d_Model_texts_143 rfl rfl ?_
      refine go_get (v := vr (r + 3)) X f_Model_16 hm.1.1 rfl d_Model_texts_144 (s_varr (hm.1.2.2 2 _ rfl).2 (by omega)) ?_
      refine go_bipush (v := 82) X d_Model_texts_147 (by decide) ?_
      refine go_iald X (hm.1.2.2 2 _ rfl).1 (by decide) (by decide) d_Model_texts_149 ?_
      refine go_top (v' := vi (S1 3 82)) X (congrArg (fun q => vi q) ((hm.a (by decide) 82).trans (rfl))) ?_
      refine go_icmp_ge (tgt := 195) X d_Model_texts_150 rfl hx5 (hm.gA (by decide) 82) (fun hq74 => ?_) (fun hq74 => ?_)
      · skip
        have hF75 := if_f hF (Int.not_lt.mpr hq74)
        refine go_aload_n X d_Model_texts_195 rfl rfl ?_
        refine go_iload X d_Model_texts_196 rfl ?_
        obtain ⟨v76, S77, hG78, hF79⟩ := bnd_t hF75
        refine go_cV (st2 := []) (r := []) X k_Model_260 (a_giveNumber l D hm hx4 hG78) hm.1.1 rfl rfl (by decide) (Nat.le_of_ble_eq_true rfl) d_Model_texts_198 (by decide) (by decide) (fun v' sh' M80 sz' hpp => ?_)
        obtain ⟨e1, e2, e3, md81⟩ := hpp
        subst e1
        rw [e2, e3]
        clear e2 e3
        show Go g 0 0 sh M80 sz 201 [(0, vr r), (1, vi x1), (4, vi x4), (5, vi x5)] []
        refine go_lv (lv' := [(0, vr r), (1, vi x1)]) X [0, 1] rfl ?_
        exact hJ201 x1 S77 M80 hx1 md81 hF79
      · skip
        have hF83 := if_t hF hq74
        refine go_iload X d_Model_texts_153 rfl ?_
        refine go_aload_n X d_Model_texts_155 rfl rfl ?_
        refine go_bipush (v := 82) X d_Model_texts_156 (by decide) ?_
        refine go_iload X d_Model_texts_158 rfl ?_
        obtain ⟨v84, S85, hG86, hF87⟩ := bnd_t hF83
        refine go_cV (st2 := []) (r := [vi x4]) X k_Model_99 (a_at l D hm (by decide) hx5 hG86) hm.1.1 rfl rfl (by decide) (Nat.le_of_ble_eq_true rfl) d_Model_texts_160 (by decide) (by decide) (fun v' sh' M88 sz' hpp => ?_)
        obtain ⟨e1, e2, e3, hv90, md89⟩ := hpp
        subst e1
        rw [e2, e3]
        clear e2 e3
        show Go g 0 0 sh M88 sz 163 [(0, vr r), (1, vi x1), (4, vi x4), (5, vi x5)] [vi v84, vi x4]
        refine go_bipush (v := 123) X d_Model_texts_163 (by decide) ?_
        refine go_icmp_eq (tgt := 181) X d_Model_texts_165 rfl hv90 (by decide) (fun hq91 => ?_) (fun hq91 => ?_)
        · skip
          have hF92 := if_t hF87 hq91
          refine go_lv (lv' := [(0, vr r), (1, vi x1), (5, vi x5)]) X [0, 1, 3] rfl ?_
          exact hJ181 x1 x5 x4 S85 M88 hx1 hx5 hx4 md89 hF92
        · skip
          have hF93 := if_f hF87 hq91
          refine go_aload_n X d_Model_texts_168 rfl rfl ?_
          refine go_bipush (v := 82) X d_Model_texts_169 (by decide) ?_
          refine go_iload X d_Model_texts_171 rfl ?_
          obtain ⟨v94, S95, hG96, hF97⟩ := bnd_t hF93
          refine go_cV (st2 := []) (r := [vi x4]) X k_Model_99 (a_at l D md89 (by decide) hx5 hG96) md89.1.1 rfl rfl (by decide) (Nat.le_of_ble_eq_true rfl) d_Model_texts_173 (by decide) (by decide) (fun v' sh' M98 sz' hpp => ?_)
          obtain ⟨e1, e2, e3, hv100, md99⟩ := hpp
          subst e1
          rw [e2, e3]
          clear e2 e3
          show Go g 0 0 sh M98 sz 176 [(0, vr r), (1, vi x1), (4, vi x4), (5, vi x5)] [vi v94, vi x4]
          refine go_bipush (v := 125) X d_Model_texts_176 (by decide) ?_
          refine go_icmp_ne (tgt := 185) X d_Model_texts_178 rfl hv100 (by decide) (fun hq101 => ?_) (fun hq101 => ?_)
          · skip
            have hF102 := if_f hF97 hq101
            refine go_iconst (v := 1) X d_Model_texts_185 ?_
            refine go_lv (lv' := [(0, vr r), (1, vi x1), (5, vi x5)]) X [0, 1, 3] rfl ?_
            exact hJ186 x1 x5 1 x4 S95 M98 hx1 hx5 (by decide) hx4 md99 hF102
          · skip
            have hF103 := if_t hF97 hq101
            refine go_lv (lv' := [(0, vr r), (1, vi x1), (5, vi x5)]) X [0, 1, 3] rfl ?_
            exact hJ181 x1 x5 x4 S95 M98 hx1 hx5 hx4 md99 hF103
  have hJ123 : ∀ (x1 : Int) (S1 M1 : s_M), rI x1 → mq sh M0 M1 r S1 → A_texts_j123 N x1 S1 = some (v0, S0) → Go g 0 0 sh M1 sz 123 [(0, vr r), (1, vi x1)] [] := by
    intro x1 S1 M1 hx1 hm hF
    rw [A_texts_j123_e] at hF
    refine go_iload_n X d_Model_texts_123 rfl rfl ?_
    refine go_bipush (v := 27) X d_Model_texts_124 (by decide) ?_
    refine go_icmp_ne (tgt := 201) X d_Model_texts_126 rfl hx1 (by decide) (fun hq104 => ?_) (fun hq104 => ?_)
    · skip
      have hF105 := if_f hF hq104
      refine go_lv (lv' := [(0, vr r), (1, vi x1)]) X [0, 1] rfl ?_
      exact hJ201 x1 S1 M1 hx1 hm hF105
    · skip
      have hF106 := if_t hF hq104
      refine go_aload_n X d_Model_texts_129 rfl rfl ?_
      refine go_bipush (v := 82) X d_Model_texts_130 (by decide) ?_
      obtain ⟨v107, S108, hG109, hF110⟩ := bnd_t hF106
      refine go_cV (st2 := []) (r := []) X k_Model_286 (a_taken l D hm (by decide) hG109) hm.1.1 rfl rfl (by decide) (Nat.le_of_ble_eq_true rfl) d_Model_texts_132 (by decide) (by decide) (fun v' sh' M111 sz' hpp => ?_)
      obtain ⟨e1, e2, e3, md112⟩ := hpp
      subst e1
      rw [e2, e3]
      clear e2 e3
      show Go g 0 0 sh M111 sz 135 [(0, vr r), (1, vi x1)] []
      refine go_iconst (v := 0) X d_Model_texts_135 ?_
      refine go_istore (lv' := [(4, vi 0), (0, vr r), (1, vi x1)]) X d_Model_texts_136 (by decide) rfl ?_
      refine go_iconst (v := 0) X d_Model_texts_138 ?_
      refine go_istore (lv' := [(5, vi 0), (4, vi 0), (0, vr r), (1, vi x1)]) X d_Model_texts_139 (by decide) rfl ?_
      refine go_lv (lv' := [(0, vr r), (1, vi x1), (4, vi 0), (5, vi 0)]) X [2, 3, 1, 0] rfl ?_
      exact hL141 N x1 0 0 S108 M111 hx1 (by decide) (by decide) md112 hF110
  have hJ117 : ∀ (x1 : Int) (S1 M1 : s_M), rI x1 → mq sh M0 M1 r S1 → A_texts_j117 N x1 S1 = some (v0, S0) → Go g 0 0 sh M1 sz 117 [(0, vr r), (1, vi x1)] [] := by
    intro x1 S1 M1 hx1 hm hF
    rw [A_texts_j117_e] at hF
    refine go_aload_n X d_Model_texts_117 rfl rfl ?_
    refine go_bipush (v := 84) X d_Model_texts_118 (by decide) ?_
    obtain ⟨v114, S115, hG116, hF117⟩ := bnd_t hF
    refine go_cV (st2 := []) (r := []) X k_Model_263 (a_giveText l D hm (by decide) hG116) hm.1.1 rfl rfl (by decide) (Nat.le_of_ble_eq_true rfl) d_Model_texts_120 (by decide) (by decide) (fun v' sh' M118 sz' hpp => ?_)
    obtain ⟨e1, e2, e3, md119⟩ := hpp
    subst e1
    rw [e2, e3]
    clear e2 e3
    show Go g 0 0 sh M118 sz 123 [(0, vr r), (1, vi x1)] []
    refine go_lv (lv' := [(0, vr r), (1, vi x1)]) X [0, 1] rfl ?_
    exact hJ123 x1 S115 M118 hx1 md119 hF117
  have hJ78 : ∀ (x1 x2 : Int) (S1 M1 : s_M), rI x1 → rL x2 → mq sh M0 M1 r S1 → A_texts_j78 N x1 x2 S1 = some (v0, S0) → Go g 0 0 sh M1 sz 78 [(0, vr r), (1, vi x1), (2, vl x2)] [] := by
    intro x1 x2 S1 M1 hx1 hx2 hm hF
    rw [A_texts_j78_e] at hF
    refine go_aload_n X d_Model_texts_78 rfl rfl ?_
    refine go_bipush (v := 82) X d_Model_texts_79 (by decide) ?_
    obtain ⟨v121, S122, hG123, hF124⟩ := bnd_t hF
    refine go_cV (st2 := []) (r := []) X k_Model_286 (a_taken l D hm (by decide) hG123) hm.1.1 rfl rfl (by decide) (Nat.le_of_ble_eq_true rfl) d_Model_texts_81 (by decide) (by decide) (fun v' sh' M125 sz' hpp => ?_)
    obtain ⟨e1, e2, e3, md126⟩ := hpp
    subst e1
    rw [e2, e3]
    clear e2 e3
    show Go g 0 0 sh M125 sz 84 [(0, vr r), (1, vi x1), (2, vl x2)] []
    refine go_iload_n X d_Model_texts_84 rfl rfl ?_
    refine go_bipush (v := 25) X d_Model_texts_85 (by decide) ?_
    refine go_icmp_ne (tgt := 113) X d_Model_texts_87 rfl hx1 (by decide) (fun hq128 => ?_) (fun hq128 => ?_)
    · skip
      have hF129 := if_f hF124 hq128
      refine go_aload_n X d_Model_texts_113 rfl rfl ?_
      obtain ⟨v130, S131, hG132, hF133⟩ := bnd_t hF129
      refine go_cV (st2 := []) (r := []) X k_Model_333 (a_purified l D md126 hG132) md126.1.1 rfl rfl (by decide) (Nat.le_of_ble_eq_true rfl) d_Model_texts_114 (by decide) (by decide) (fun v' sh' M134 sz' hpp => ?_)
      obtain ⟨e1, e2, e3, md135⟩ := hpp
      subst e1
      rw [e2, e3]
      clear e2 e3
      show Go g 0 0 sh M134 sz 117 [(0, vr r), (1, vi x1), (2, vl x2)] []
      refine go_lv (lv' := [(0, vr r), (1, vi x1)]) X [0, 1] rfl ?_
      exact hJ117 x1 S131 M134 hx1 md135 hF133
    · skip
      have hF137 := if_t hF124 hq128
      refine go_aload_n X d_Model_texts_90 rfl rfl ?_
      refine go_lload_n X d_Model_texts_91 rfl rfl ?_
      refine go_lconst (x := 0) X d_Model_texts_92 (by decide) ?_
      refine go_lcmp X hx2 (by decide) d_Model_texts_93 ?_
      suffices hv138 : Go g 0 0 sh M125 sz 106 [(0, vr r), (1, vi x1), (2, vl x2)] [vl (if x2 < 0 then (0 : Int) else (l_mod x2 3)), vr r] by
        refine go_if_ge (tgt := 101) X d_Model_texts_94 rfl (rI_cmp _ _) (fun hq139 => ?_) (fun hq139 => ?_)
        · skip
          refine go_lload_n X d_Model_texts_101 rfl rfl ?_
          refine go_ldc2 (x := 3) X w_kl_Model_328 (by decide) d_Model_texts_102 ?_
          refine go_lrem (z := l_mod x2 3) X d_Model_texts_105 (by decide) (Int64.ofInt_toInt _).symm ?_
          refine go_top (v' := vl (if x2 < 0 then (0 : Int) else (l_mod x2 3))) X (congrArg (fun q => vl q) (show l_mod x2 3 = if x2 < 0 then (0 : Int) else (l_mod x2 3) from ((if_neg (Int.not_lt.mpr (sc_ge hq139)))).symm)) ?_
          exact hv138
        · skip
          refine go_lconst (x := 0) X d_Model_texts_97 (by decide) ?_
          refine go_goto (tgt := 106) X d_Model_texts_98 rfl ?_
          refine go_top (v' := vl (if x2 < 0 then (0 : Int) else (l_mod x2 3))) X (congrArg (fun q => vl q) (show 0 = if x2 < 0 then (0 : Int) else (l_mod x2 3) from ((if_pos (sc_lt hq139))).symm)) ?_
          exact hv138
      refine go_l2i X d_Model_texts_106 ?_
      refine go_top (v' := vi (wi32 (if x2 < 0 then (0 : Int) else (l_mod x2 3)))) X (wi32_vi _) ?_
      obtain ⟨v140, S141, hG142, hF143⟩ := bnd_t hF137
      refine go_cV (st2 := []) (r := []) X k_Model_330 (a_capitals l D md126 (wi32_rng _) hG142) md126.1.1 rfl rfl (by decide) (Nat.le_of_ble_eq_true rfl) d_Model_texts_107 (by decide) (by decide) (fun v' sh' M144 sz' hpp => ?_)
      obtain ⟨e1, e2, e3, md145⟩ := hpp
      subst e1
      rw [e2, e3]
      clear e2 e3
      show Go g 0 0 sh M144 sz 110 [(0, vr r), (1, vi x1), (2, vl x2)] []
      refine go_goto (tgt := 117) X d_Model_texts_110 rfl ?_
      refine go_lv (lv' := [(0, vr r), (1, vi x1)]) X [0, 1] rfl ?_
      exact hJ117 x1 S141 M144 hx1 md145 hF143
  have hJ66 : ∀ (x1 x2 : Int) (S1 M1 : s_M), rI x1 → rL x2 → mq sh M0 M1 r S1 → A_texts_j66 N x1 x2 S1 = some (v0, S0) → Go g 0 0 sh M1 sz 66 [(0, vr r), (1, vi x1), (2, vl x2)] [] := by
    intro x1 x2 S1 M1 hx1 hx2 hm hF
    rw [A_texts_j66_e] at hF
    refine go_iload_n X d_Model_texts_66 rfl rfl ?_
    refine go_bipush (v := 25) X d_Model_texts_67 (by decide) ?_
    refine go_icmp_eq (tgt := 78) X d_Model_texts_69 rfl hx1 (by decide) (fun hq147 => ?_) (fun hq147 => ?_)
    · skip
      have hF148 := if_t hF hq147
      refine go_lv (lv' := [(0, vr r), (1, vi x1), (2, vl x2)]) X [0, 1, 2] rfl ?_
      exact hJ78 x1 x2 S1 M1 hx1 hx2 hm hF148
    · skip
      have hF149 := if_f hF hq147
      refine go_iload_n X d_Model_texts_72 rfl rfl ?_
      refine go_bipush (v := 26) X d_Model_texts_73 (by decide) ?_
      refine go_icmp_ne (tgt := 123) X d_Model_texts_75 rfl hx1 (by decide) (fun hq150 => ?_) (fun hq150 => ?_)
      · skip
        have hF151 := if_f hF149 hq150
        refine go_lv (lv' := [(0, vr r), (1, vi x1)]) X [0, 1] rfl ?_
        exact hJ123 x1 S1 M1 hx1 hm hF151
      · skip
        have hF152 := if_t hF149 hq150
        refine go_lv (lv' := [(0, vr r), (1, vi x1), (2, vl x2)]) X [0, 1, 2] rfl ?_
        exact hJ78 x1 x2 S1 M1 hx1 hx2 hm hF152
  have hJ20 : ∀ (x1 x2 : Int) (S1 M1 : s_M), rI x1 → rL x2 → mq sh M0 M1 r S1 → A_texts_j20 N x1 x2 S1 = some (v0, S0) → Go g 0 0 sh M1 sz 20 [(0, vr r), (1, vi x1), (2, vl x2)] [] := by
    intro x1 x2 S1 M1 hx1 hx2 hm hF
    rw [A_texts_j20_e] at hF
    refine go_iload_n X d_Model_texts_20 rfl rfl ?_
    refine go_bipush (v := 24) X d_Model_texts_21 (by decide) ?_
    refine go_icmp_ne (tgt := 66) X d_Model_texts_23 rfl hx1 (by decide) (fun hq153 => ?_) (fun hq153 => ?_)
    · skip
      have hF154 := if_f hF hq153
      refine go_lv (lv' := [(0, vr r), (1, vi x1), (2, vl x2)]) X [0, 1, 2] rfl ?_
      exact hJ66 x1 x2 S1 M1 hx1 hx2 hm hF154
    · skip
      have hF155 := if_t hF hq153
      refine go_aload_n X d_Model_texts_26 rfl rfl ?_
      obtain ⟨v156, S157, hG158, hF159⟩ := bnd_t hF155
      refine go_cV (st2 := []) (r := []) X k_Model_292 (a_number l D hm hG158) hm.1.1 rfl rfl (by decide) (Nat.le_of_ble_eq_true rfl) d_Model_texts_27 (by decide) (by decide) (fun v' sh' M160 sz' hpp => ?_)
      obtain ⟨e1, e2, e3, hv162, md161⟩ := hpp
      subst e1
      rw [e2, e3]
      clear e2 e3
      show Go g 0 0 sh M160 sz 30 [(0, vr r), (1, vi x1), (2, vl x2)] [vi v156]
      refine go_istore (lv' := [(4, vi v156), (0, vr r), (1, vi x1), (2, vl x2)]) X d_Model_texts_30 (by decide) rfl ?_
      refine go_aload_n X d_Model_texts_32 rfl rfl ?_
      refine go_bipush (v := 82) X d_Model_texts_33 (by decide) ?_
      obtain ⟨v163, S164, hG165, hF166⟩ := bnd_t hF159
      refine go_cV (st2 := []) (r := []) X k_Model_286 (a_taken l D md161 (by decide) hG165) md161.1.1 rfl rfl (by decide) (Nat.le_of_ble_eq_true rfl) d_Model_texts_35 (by decide) (by decide) (fun v' sh' M167 sz' hpp => ?_)
      obtain ⟨e1, e2, e3, md168⟩ := hpp
      subst e1
      rw [e2, e3]
      clear e2 e3
      show Go g 0 0 sh M167 sz 38 [(4, vi v156), (0, vr r), (1, vi x1), (2, vl x2)] []
      refine go_aload_n X d_Model_texts_38 rfl rfl ?_
      refine go_iload X d_Model_texts_39 rfl ?_
      refine go_lload_n X d_Model_texts_41 rfl rfl ?_
      refine go_lconst (x := 0) X d_Model_texts_42 (by decide) ?_
      refine go_lcmp X hx2 (by decide) d_Model_texts_43 ?_
      suffices hv170 : Go g 0 0 sh M167 sz 56 [(4, vi v156), (0, vr r), (1, vi x1), (2, vl x2)] [vl (if x2 < 0 then (0 : Int) else (l_mod x2 4)), vi v156, vr r] by
        refine go_if_ge (tgt := 51) X d_Model_texts_44 rfl (rI_cmp _ _) (fun hq171 => ?_) (fun hq171 => ?_)
        · skip
          refine go_lload_n X d_Model_texts_51 rfl rfl ?_
          refine go_ldc2 (x := 4) X w_kl_Model_308 (by decide) d_Model_texts_52 ?_
          refine go_lrem (z := l_mod x2 4) X d_Model_texts_55 (by decide) (Int64.ofInt_toInt _).symm ?_
          refine go_top (v' := vl (if x2 < 0 then (0 : Int) else (l_mod x2 4))) X (congrArg (fun q => vl q) (show l_mod x2 4 = if x2 < 0 then (0 : Int) else (l_mod x2 4) from ((if_neg (Int.not_lt.mpr (sc_ge hq171)))).symm)) ?_
          exact hv170
        · skip
          refine go_lconst (x := 0) X d_Model_texts_47 (by decide) ?_
          refine go_goto (tgt := 56) X d_Model_texts_48 rfl ?_
          refine go_top (v' := vl (if x2 < 0 then (0 : Int) else (l_mod x2 4))) X (congrArg (fun q => vl q) (show 0 = if x2 < 0 then (0 : Int) else (l_mod x2 4) from ((if_pos (sc_lt hq171))).symm)) ?_
          exact hv170
      refine go_l2i X d_Model_texts_56 ?_
      refine go_top (v' := vi (wi32 (if x2 < 0 then (0 : Int) else (l_mod x2 4)))) X (wi32_vi _) ?_
      obtain ⟨v172, S173, hG174, hF175⟩ := bnd_t hF166
      refine go_cV (st2 := []) (r := []) X k_Model_325 (a_person l D md168 hv162 (wi32_rng _) hG174) md168.1.1 rfl rfl (by decide) (Nat.le_of_ble_eq_true rfl) d_Model_texts_57 (by decide) (by decide) (fun v' sh' M176 sz' hpp => ?_)
      obtain ⟨e1, e2, e3, md177⟩ := hpp
      subst e1
      rw [e2, e3]
      clear e2 e3
      show Go g 0 0 sh M176 sz 60 [(4, vi v156), (0, vr r), (1, vi x1), (2, vl x2)] []
      refine go_aload_n X d_Model_texts_60 rfl rfl ?_
      refine go_bipush (v := 84) X d_Model_texts_61 (by decide) ?_
      obtain ⟨v179, S180, hG181, hF182⟩ := bnd_t hF175
      refine go_cV (st2 := []) (r := []) X k_Model_263 (a_giveText l D md177 (by decide) hG181) md177.1.1 rfl rfl (by decide) (Nat.le_of_ble_eq_true rfl) d_Model_texts_63 (by decide) (by decide) (fun v' sh' M183 sz' hpp => ?_)
      obtain ⟨e1, e2, e3, md184⟩ := hpp
      subst e1
      rw [e2, e3]
      clear e2 e3
      show Go g 0 0 sh M183 sz 66 [(4, vi v156), (0, vr r), (1, vi x1), (2, vl x2)] []
      refine go_lv (lv' := [(0, vr r), (1, vi x1), (2, vl x2)]) X [1, 2, 3] rfl ?_
      exact hJ66 x1 x2 S180 M183 hx1 hx2 md184 hF182
  rw [A_texts_e] at hF
  refine go_iload_n X d_Model_texts_0 rfl rfl ?_
  refine go_bipush (v := 23) X d_Model_texts_1 (by decide) ?_
  refine go_icmp_ne (tgt := 20) X d_Model_texts_3 rfl hx1 (by decide) (fun hq186 => ?_) (fun hq186 => ?_)
  · skip
    have hF187 := if_f hF hq186
    refine go_lv (lv' := [(0, vr r), (1, vi x1), (2, vl x2)]) X [0, 1, 2] rfl ?_
    exact hJ20 x1 x2 S M hx1 hx2 h hF187
  · skip
    have hF188 := if_t hF hq186
    refine go_aload_n X d_Model_texts_6 rfl rfl ?_
    refine go_bipush (v := 82) X d_Model_texts_7 (by decide) ?_
    obtain ⟨v189, S190, hG191, hF192⟩ := bnd_t hF188
    refine go_cV (st2 := []) (r := []) X k_Model_286 (a_taken l D h (by decide) hG191) h.1.1 rfl rfl (by decide) (Nat.le_of_ble_eq_true rfl) d_Model_texts_9 (by decide) (by decide) (fun v' sh' M193 sz' hpp => ?_)
    obtain ⟨e1, e2, e3, md194⟩ := hpp
    subst e1
    rw [e2, e3]
    clear e2 e3
    show Go g 0 0 sh M193 sz 12 [(0, vr r), (1, vi x1), (2, vl x2)] []
    refine go_aload_n X d_Model_texts_12 rfl rfl ?_
    refine go_aload_n X d_Model_texts_13 rfl rfl ?_
    obtain ⟨v196, S197, hG198, hF199⟩ := bnd_t hF192
    refine go_cV (st2 := []) (r := [vr r]) X k_Model_322 (a_people l D md194 hG198) md194.1.1 rfl rfl (by decide) (Nat.le_of_ble_eq_true rfl) d_Model_texts_14 (by decide) (by decide) (fun v' sh' M200 sz' hpp => ?_)
    obtain ⟨e1, e2, e3, hv202, md201⟩ := hpp
    subst e1
    rw [e2, e3]
    clear e2 e3
    show Go g 0 0 sh M200 sz 17 [(0, vr r), (1, vi x1), (2, vl x2)] [vi v196, vr r]
    obtain ⟨v203, S204, hG205, hF206⟩ := bnd_t hF199
    refine go_cV (st2 := []) (r := []) X k_Model_260 (a_giveNumber l D md201 hv202 hG205) md201.1.1 rfl rfl (by decide) (Nat.le_of_ble_eq_true rfl) d_Model_texts_17 (by decide) (by decide) (fun v' sh' M207 sz' hpp => ?_)
    obtain ⟨e1, e2, e3, md208⟩ := hpp
    subst e1
    rw [e2, e3]
    clear e2 e3
    show Go g 0 0 sh M207 sz 20 [(0, vr r), (1, vi x1), (2, vl x2)] []
    refine go_lv (lv' := [(0, vr r), (1, vi x1), (2, vl x2)]) X [0, 1, 2] rfl ?_
    exact hJ20 x1 x2 S204 M207 hx1 hx2 md208 hF206
def A_operate_j220 (N : Nat) (S : s_M) : rO := some (0, S)
theorem A_operate_j220_e (N : Nat) (S : s_M) : A_operate_j220 N S = (some (0, S)) := rfl
def A_operate (N : Nat) (S : s_M) : rO := if (S 0 30) = 400 then (some (0, m_s S 0 32 1)) else (chk (rI ((S 0 29) - 1)) <| chk (0 ≤ ((S 0 29) - 1) ∧ ((S 0 29) - 1) < 8) <| chk (rI (24 * (S 18 ((S 0 29) - 1)))) <| chk (0 ≤ ((S 0 29) - 1) ∧ ((S 0 29) - 1) < 8) <| chk (rI ((24 * (S 18 ((S 0 29) - 1))) + (S 19 ((S 0 29) - 1)))) <| chk (0 ≤ ((S 0 29) - 1) ∧ ((S 0 29) - 1) < 8) <| chk (rI ((S 19 ((S 0 29) - 1)) + 1)) <| chk (0 ≤ ((S 0 29) - 1) ∧ ((S 0 29) - 1) < 8) <| chk (rI ((S 0 30) + 1)) <| chk (0 ≤ ((24 * (S 18 ((S 0 29) - 1))) + (S 19 ((S 0 29) - 1))) ∧ ((24 * (S 18 ((S 0 29) - 1))) + (S 19 ((S 0 29) - 1))) < 144) <| chk (0 ≤ ((24 * (S 18 ((S 0 29) - 1))) + (S 19 ((S 0 29) - 1))) ∧ ((24 * (S 18 ((S 0 29) - 1))) + (S 19 ((S 0 29) - 1))) < 144) <| if (S 13 ((24 * (S 18 ((S 0 29) - 1))) + (S 19 ((S 0 29) - 1)))) = 13 then (bnd (A_number N (m_s (m_s S 19 ((S 0 29) - 1) ((S 19 ((S 0 29) - 1)) + 1)) 0 30 ((S 0 30) + 1))) fun v81 S82 => bnd (A_push N (wi32 (if 0 < v81 then (l_mod (l_quo (if (S 14 ((24 * (S 18 ((S 0 29) - 1))) + (S 19 ((S 0 29) - 1)))) < 0 then (0 : Int) else (S 14 ((24 * (S 18 ((S 0 29) - 1))) + (S 19 ((S 0 29) - 1))))) 6) 6 : Int) else (l_mod (if (S 14 ((24 * (S 18 ((S 0 29) - 1))) + (S 19 ((S 0 29) - 1)))) < 0 then (0 : Int) else (S 14 ((24 * (S 18 ((S 0 29) - 1))) + (S 19 ((S 0 29) - 1))))) 6))) 0 0 S82) fun v90 S91 => A_operate_j220 N  S91) else (if (S 13 ((24 * (S 18 ((S 0 29) - 1))) + (S 19 ((S 0 29) - 1)))) = 14 then (bnd (A_push N (wi32 (l_mod (l_quo (if (S 14 ((24 * (S 18 ((S 0 29) - 1))) + (S 19 ((S 0 29) - 1)))) < 0 then (0 : Int) else (S 14 ((24 * (S 18 ((S 0 29) - 1))) + (S 19 ((S 0 29) - 1))))) 6) 6)) 1 (if (S 14 ((24 * (S 18 ((S 0 29) - 1))) + (S 19 ((S 0 29) - 1)))) < 0 then (0 : Int) else (S 14 ((24 * (S 18 ((S 0 29) - 1))) + (S 19 ((S 0 29) - 1))))) (m_s (m_s S 19 ((S 0 29) - 1) ((S 19 ((S 0 29) - 1)) + 1)) 0 30 ((S 0 30) + 1))) fun v73 S74 => A_operate_j220 N  S74) else (if (S 13 ((24 * (S 18 ((S 0 29) - 1))) + (S 19 ((S 0 29) - 1)))) = 15 then (bnd (A_push N (wi32 (l_mod (if (S 14 ((24 * (S 18 ((S 0 29) - 1))) + (S 19 ((S 0 29) - 1)))) < 0 then (0 : Int) else (S 14 ((24 * (S 18 ((S 0 29) - 1))) + (S 19 ((S 0 29) - 1))))) 6)) 0 0 (m_s (m_s S 19 ((S 0 29) - 1) ((S 19 ((S 0 29) - 1)) + 1)) 0 30 ((S 0 30) + 1))) fun v65 S66 => A_operate_j220 N  S66) else (if (S 13 ((24 * (S 18 ((S 0 29) - 1))) + (S 19 ((S 0 29) - 1)))) < 13 then (bnd (A_simple N (S 13 ((24 * (S 18 ((S 0 29) - 1))) + (S 19 ((S 0 29) - 1)))) (S 14 ((24 * (S 18 ((S 0 29) - 1))) + (S 19 ((S 0 29) - 1)))) (m_s (m_s S 19 ((S 0 29) - 1) ((S 19 ((S 0 29) - 1)) + 1)) 0 30 ((S 0 30) + 1))) fun v57 S58 => A_operate_j220 N  S58) else (if (S 13 ((24 * (S 18 ((S 0 29) - 1))) + (S 19 ((S 0 29) - 1)))) < 23 then (bnd (A_more N (S 13 ((24 * (S 18 ((S 0 29) - 1))) + (S 19 ((S 0 29) - 1)))) (S 14 ((24 * (S 18 ((S 0 29) - 1))) + (S 19 ((S 0 29) - 1)))) (m_s (m_s S 19 ((S 0 29) - 1) ((S 19 ((S 0 29) - 1)) + 1)) 0 30 ((S 0 30) + 1))) fun v49 S50 => A_operate_j220 N  S50) else (bnd (A_texts N (S 13 ((24 * (S 18 ((S 0 29) - 1))) + (S 19 ((S 0 29) - 1)))) (S 14 ((24 * (S 18 ((S 0 29) - 1))) + (S 19 ((S 0 29) - 1)))) (m_s (m_s S 19 ((S 0 29) - 1) ((S 19 ((S 0 29) - 1)) + 1)) 0 30 ((S 0 30) + 1))) fun v41 S42 => A_operate_j220 N  S42))))))
theorem A_operate_e (N : Nat) (S : s_M) : A_operate N S = (if (S 0 30) = 400 then (some (0, m_s S 0 32 1)) else (chk (rI ((S 0 29) - 1)) <| chk (0 ≤ ((S 0 29) - 1) ∧ ((S 0 29) - 1) < 8) <| chk (rI (24 * (S 18 ((S 0 29) - 1)))) <| chk (0 ≤ ((S 0 29) - 1) ∧ ((S 0 29) - 1) < 8) <| chk (rI ((24 * (S 18 ((S 0 29) - 1))) + (S 19 ((S 0 29) - 1)))) <| chk (0 ≤ ((S 0 29) - 1) ∧ ((S 0 29) - 1) < 8) <| chk (rI ((S 19 ((S 0 29) - 1)) + 1)) <| chk (0 ≤ ((S 0 29) - 1) ∧ ((S 0 29) - 1) < 8) <| chk (rI ((S 0 30) + 1)) <| chk (0 ≤ ((24 * (S 18 ((S 0 29) - 1))) + (S 19 ((S 0 29) - 1))) ∧ ((24 * (S 18 ((S 0 29) - 1))) + (S 19 ((S 0 29) - 1))) < 144) <| chk (0 ≤ ((24 * (S 18 ((S 0 29) - 1))) + (S 19 ((S 0 29) - 1))) ∧ ((24 * (S 18 ((S 0 29) - 1))) + (S 19 ((S 0 29) - 1))) < 144) <| if (S 13 ((24 * (S 18 ((S 0 29) - 1))) + (S 19 ((S 0 29) - 1)))) = 13 then (bnd (A_number N (m_s (m_s S 19 ((S 0 29) - 1) ((S 19 ((S 0 29) - 1)) + 1)) 0 30 ((S 0 30) + 1))) fun v81 S82 => bnd (A_push N (wi32 (if 0 < v81 then (l_mod (l_quo (if (S 14 ((24 * (S 18 ((S 0 29) - 1))) + (S 19 ((S 0 29) - 1)))) < 0 then (0 : Int) else (S 14 ((24 * (S 18 ((S 0 29) - 1))) + (S 19 ((S 0 29) - 1))))) 6) 6 : Int) else (l_mod (if (S 14 ((24 * (S 18 ((S 0 29) - 1))) + (S 19 ((S 0 29) - 1)))) < 0 then (0 : Int) else (S 14 ((24 * (S 18 ((S 0 29) - 1))) + (S 19 ((S 0 29) - 1))))) 6))) 0 0 S82) fun v90 S91 => A_operate_j220 N  S91) else (if (S 13 ((24 * (S 18 ((S 0 29) - 1))) + (S 19 ((S 0 29) - 1)))) = 14 then (bnd (A_push N (wi32 (l_mod (l_quo (if (S 14 ((24 * (S 18 ((S 0 29) - 1))) + (S 19 ((S 0 29) - 1)))) < 0 then (0 : Int) else (S 14 ((24 * (S 18 ((S 0 29) - 1))) + (S 19 ((S 0 29) - 1))))) 6) 6)) 1 (if (S 14 ((24 * (S 18 ((S 0 29) - 1))) + (S 19 ((S 0 29) - 1)))) < 0 then (0 : Int) else (S 14 ((24 * (S 18 ((S 0 29) - 1))) + (S 19 ((S 0 29) - 1))))) (m_s (m_s S 19 ((S 0 29) - 1) ((S 19 ((S 0 29) - 1)) + 1)) 0 30 ((S 0 30) + 1))) fun v73 S74 => A_operate_j220 N  S74) else (if (S 13 ((24 * (S 18 ((S 0 29) - 1))) + (S 19 ((S 0 29) - 1)))) = 15 then (bnd (A_push N (wi32 (l_mod (if (S 14 ((24 * (S 18 ((S 0 29) - 1))) + (S 19 ((S 0 29) - 1)))) < 0 then (0 : Int) else (S 14 ((24 * (S 18 ((S 0 29) - 1))) + (S 19 ((S 0 29) - 1))))) 6)) 0 0 (m_s (m_s S 19 ((S 0 29) - 1) ((S 19 ((S 0 29) - 1)) + 1)) 0 30 ((S 0 30) + 1))) fun v65 S66 => A_operate_j220 N  S66) else (if (S 13 ((24 * (S 18 ((S 0 29) - 1))) + (S 19 ((S 0 29) - 1)))) < 13 then (bnd (A_simple N (S 13 ((24 * (S 18 ((S 0 29) - 1))) + (S 19 ((S 0 29) - 1)))) (S 14 ((24 * (S 18 ((S 0 29) - 1))) + (S 19 ((S 0 29) - 1)))) (m_s (m_s S 19 ((S 0 29) - 1) ((S 19 ((S 0 29) - 1)) + 1)) 0 30 ((S 0 30) + 1))) fun v57 S58 => A_operate_j220 N  S58) else (if (S 13 ((24 * (S 18 ((S 0 29) - 1))) + (S 19 ((S 0 29) - 1)))) < 23 then (bnd (A_more N (S 13 ((24 * (S 18 ((S 0 29) - 1))) + (S 19 ((S 0 29) - 1)))) (S 14 ((24 * (S 18 ((S 0 29) - 1))) + (S 19 ((S 0 29) - 1)))) (m_s (m_s S 19 ((S 0 29) - 1) ((S 19 ((S 0 29) - 1)) + 1)) 0 30 ((S 0 30) + 1))) fun v49 S50 => A_operate_j220 N  S50) else (bnd (A_texts N (S 13 ((24 * (S 18 ((S 0 29) - 1))) + (S 19 ((S 0 29) - 1)))) (S 14 ((24 * (S 18 ((S 0 29) - 1))) + (S 19 ((S 0 29) - 1)))) (m_s (m_s S 19 ((S 0 29) - 1) ((S 19 ((S 0 29) - 1)) + 1)) 0 30 ((S 0 30) + 1))) fun v41 S42 => A_operate_j220 N  S42))))))) := rfl
set_option maxHeartbeats 4000000 in
set_option maxRecDepth 100000 in
theorem a_operate (l : Launch) (D : va_G) {sh : s_S} {M0 M : s_M} {sz r  : Int} {N : Nat} {S S0 : s_M} {v0 : Int} (h : mq sh M0 M r S) (hF : A_operate N S = some (v0, S0)) : Sp l D y_Model_operate prog_14_method_84_code 8 none 8 0 0 [vr r] sh M sz (fun v' sh' M' sz' => v' = none ∧ sh' = sh ∧ sz' = sz ∧ mq sh M0 M' r S0) := by
  have hr0 := h.1.2.1
  refine Sp.ofGo (own := "CiteForgeModel") (nm := "operate") (by decide) rfl rfl (Nat.le_of_ble_eq_true rfl) (lv := [(0, vr r)]) rfl ?_
  intro g X
  have hJ220 : ∀ (S1 M1 : s_M), mq sh M0 M1 r S1 → A_operate_j220 N S1 = some (v0, S0) → Go g 0 0 sh M1 sz 220 [(0, vr r)] [] := by
    intro S1 M1 hm hF
    rw [A_operate_j220_e] at hF
    exact go_vret X d_Model_operate_220 rfl (by decide) (by decide) (ret_v hF hm)
  rw [A_operate_e] at hF
  refine go_aload_n X d_Model_operate_0 rfl rfl ?_
  refine go_get (v := vi (S 0 30)) X f_Model_389 h.1.1 rfl d_Model_operate_1 (congrArg (s_v .int) ((h.s 30).trans (rfl))) ?_
  refine go_sipush (v := 400) X d_Model_operate_4 (by decide) ?_
  refine go_icmp_ne (tgt := 16) X d_Model_operate_7 rfl (h.gS 30 (by decide) (by decide)) (by decide) (fun hq1 => ?_) (fun hq1 => ?_)
  · skip
    have hF2 := if_f hF hq1
    refine go_aload_n X d_Model_operate_16 rfl rfl ?_
    refine go_get (v := vi (S 0 29)) X f_Model_383 h.1.1 rfl d_Model_operate_17 (congrArg (s_v .int) ((h.s 29).trans (rfl))) ?_
    refine go_iconst (v := 1) X d_Model_operate_20 ?_
    refine go_isub X d_Model_operate_21 ?_
    obtain ⟨hc3, hF4⟩ := chk_t hF2
    refine go_istore_n (lv' := [(1, vi ((S 0 29) - 1)), (0, vr r)]) X d_Model_operate_22 rfl (by decide) rfl ?_
    refine go_bipush (v := 24) X d_Model_operate_23 (by decide) ?_
    refine go_aload_n X d_Model_operate_25 rfl rfl ?_
    refine go_get (v := vr (r + 18)) X f_Model_62 h.1.1 rfl d_Model_operate_26 (s_varr (h.1.2.2 17 _ rfl).2 (by omega)) ?_
    refine go_iload_n X d_Model_operate_29 rfl rfl ?_
    obtain ⟨hc5, hF6⟩ := chk_t hF4
    refine go_iald X (h.1.2.2 17 _ rfl).1 (by decide) hc5 d_Model_operate_30 ?_
    refine go_top (v' := vi (S 18 ((S 0 29) - 1))) X (congrArg (fun q => vi q) ((h.a (by decide) ((S 0 29) - 1)).trans (rfl))) ?_
    refine go_imul X d_Model_operate_31 ?_
    obtain ⟨hc7, hF8⟩ := chk_t hF6
    refine go_aload_n X d_Model_operate_32 rfl rfl ?_
    refine go_get (v := vr (r + 19)) X f_Model_65 h.1.1 rfl d_Model_operate_33 (s_varr (h.1.2.2 18 _ rfl).2 (by omega)) ?_
    refine go_iload_n X d_Model_operate_36 rfl rfl ?_
    obtain ⟨hc9, hF10⟩ := chk_t hF8
    refine go_iald X (h.1.2.2 18 _ rfl).1 (by decide) hc9 d_Model_operate_37 ?_
    refine go_top (v' := vi (S 19 ((S 0 29) - 1))) X (congrArg (fun q => vi q) ((h.a (by decide) ((S 0 29) - 1)).trans (rfl))) ?_
    refine go_iadd X d_Model_operate_38 ?_
    obtain ⟨hc11, hF12⟩ := chk_t hF10
    refine go_istore_n (lv' := [(2, vi ((24 * (S 18 ((S 0 29) - 1))) + (S 19 ((S 0 29) - 1)))), (1, vi ((S 0 29) - 1)), (0, vr r)]) X d_Model_operate_39 rfl (by decide) rfl ?_
    refine go_aload_n X d_Model_operate_40 rfl rfl ?_
    refine go_get (v := vr (r + 19)) X f_Model_65 h.1.1 rfl d_Model_operate_41 (s_varr (h.1.2.2 18 _ rfl).2 (by omega)) ?_
    refine go_iload_n X d_Model_operate_44 rfl rfl ?_
    refine go_dup2 X d_Model_operate_45 rfl rfl ?_
    obtain ⟨hc13, hF14⟩ := chk_t hF12
    refine go_iald X (h.1.2.2 18 _ rfl).1 (by decide) hc13 d_Model_operate_46 ?_
    refine go_top (v' := vi (S 19 ((S 0 29) - 1))) X (congrArg (fun q => vi q) ((h.a (by decide) ((S 0 29) - 1)).trans (rfl))) ?_
    refine go_iconst (v := 1) X d_Model_operate_47 ?_
    refine go_iadd X d_Model_operate_48 ?_
    obtain ⟨hc15, hF16⟩ := chk_t hF14
    obtain ⟨hc17, hF18⟩ := chk_t hF16
    refine go_iast (x := ((S 19 ((S 0 29) - 1)) + 1)) X (h.1.2.2 18 _ rfl).1 (by decide) hc17 d_Model_operate_49 ?_
    have md19 : mq sh M0 (m_s M (r + 19) ((S 0 29) - 1) ((S 19 ((S 0 29) - 1)) + 1)) r (m_s S 19 ((S 0 29) - 1) ((S 19 ((S 0 29) - 1)) + 1)) := h.put (by decide) ((rg_A (by decide) hc15))
    generalize m_s M (r + 19) ((S 0 29) - 1) ((S 19 ((S 0 29) - 1)) + 1) = M20 at md19 ⊢
    refine go_aload_n X d_Model_operate_50 rfl rfl ?_
    refine go_dup X d_Model_operate_51 rfl ?_
    refine go_get (v := vi (S 0 30)) X f_Model_389 md19.1.1 rfl d_Model_operate_52 (congrArg (s_v .int) ((md19.s 30).trans ((m_sk (by decide)).trans (rfl)))) ?_
    refine go_iconst (v := 1) X d_Model_operate_55 ?_
    refine go_iadd X d_Model_operate_56 ?_
    obtain ⟨hc21, hF22⟩ := chk_t hF18
    refine go_put (x := ((S 0 30) + 1)) (v := vi ((S 0 30) + 1)) X f_Model_389 md19.1.1 rfl d_Model_operate_57 rfl rfl rfl ?_
    have md23 : mq sh M0 (m_s M20 r 30 ((S 0 30) + 1)) r (m_s (m_s S 19 ((S 0 29) - 1) ((S 19 ((S 0 29) - 1)) + 1)) 0 30 ((S 0 30) + 1)) := md19.put0 (by decide) ((rg_S (by decide) (by decide) hc21))
    generalize m_s M20 r 30 ((S 0 30) + 1) = M24 at md23 ⊢
    refine go_aload_n X d_Model_operate_60 rfl rfl ?_
    refine go_get (v := vr (r + 13)) X f_Model_47 md23.1.1 rfl d_Model_operate_61 (s_varr (md23.1.2.2 12 _ rfl).2 (by omega)) ?_
    refine go_iload_n X d_Model_operate_64 rfl rfl ?_
    obtain ⟨hc25, hF26⟩ := chk_t hF22
    refine go_iald X (md23.1.2.2 12 _ rfl).1 (by decide) hc25 d_Model_operate_65 ?_
    refine go_top (v' := vi (S 13 ((24 * (S 18 ((S 0 29) - 1))) + (S 19 ((S 0 29) - 1))))) X (congrArg (fun q => vi q) ((md23.a (by decide) ((24 * (S 18 ((S 0 29) - 1))) + (S 19 ((S 0 29) - 1)))).trans ((m_sk (by decide)).trans ((m_sk (by decide)).trans (rfl))))) ?_
    refine go_istore_n (lv' := [(3, vi (S 13 ((24 * (S 18 ((S 0 29) - 1))) + (S 19 ((S 0 29) - 1))))), (2, vi ((24 * (S 18 ((S 0 29) - 1))) + (S 19 ((S 0 29) - 1)))), (1, vi ((S 0 29) - 1)), (0, vr r)]) X d_Model_operate_66 rfl (by decide) rfl ?_
    refine go_aload_n X d_Model_operate_67 rfl rfl ?_
    refine go_get (v := vr (r + 14)) X f_Model_50 md23.1.1 rfl d_Model_operate_68 (s_varr (md23.1.2.2 13 _ rfl).2 (by omega)) ?_
    refine go_iload_n X d_Model_operate_71 rfl rfl ?_
    obtain ⟨hc27, hF28⟩ := chk_t hF26
    refine go_lald X (md23.1.2.2 13 _ rfl).1 (by decide) hc27 d_Model_operate_72 ?_
    refine go_top (v' := vl (S 14 ((24 * (S 18 ((S 0 29) - 1))) + (S 19 ((S 0 29) - 1))))) X (congrArg (fun q => vl q) ((md23.a (by decide) ((24 * (S 18 ((S 0 29) - 1))) + (S 19 ((S 0 29) - 1)))).trans ((m_sk (by decide)).trans ((m_sk (by decide)).trans (rfl))))) ?_
    refine go_lstore (lv' := [(4, vl (S 14 ((24 * (S 18 ((S 0 29) - 1))) + (S 19 ((S 0 29) - 1))))), (3, vi (S 13 ((24 * (S 18 ((S 0 29) - 1))) + (S 19 ((S 0 29) - 1))))), (2, vi ((24 * (S 18 ((S 0 29) - 1))) + (S 19 ((S 0 29) - 1)))), (1, vi ((S 0 29) - 1)), (0, vr r)]) X d_Model_operate_73 (by decide) rfl ?_
    refine go_lload X d_Model_operate_75 rfl ?_
    refine go_lconst (x := 0) X d_Model_operate_77 (by decide) ?_
    refine go_lcmp X (rL_eq (md23.gL (by decide) ((24 * (S 18 ((S 0 29) - 1))) + (S 19 ((S 0 29) - 1)))) ((m_sk (by decide)).trans ((m_sk (by decide)).trans (rfl)))) (by decide) d_Model_operate_78 ?_
    suffices hv29 : Go g 0 0 sh M24 sz 88 [(4, vl (S 14 ((24 * (S 18 ((S 0 29) - 1))) + (S 19 ((S 0 29) - 1))))), (3, vi (S 13 ((24 * (S 18 ((S 0 29) - 1))) + (S 19 ((S 0 29) - 1))))), (2, vi ((24 * (S 18 ((S 0 29) - 1))) + (S 19 ((S 0 29) - 1)))), (1, vi ((S 0 29) - 1)), (0, vr r)] [vl (if (S 14 ((24 * (S 18 ((S 0 29) - 1))) + (S 19 ((S 0 29) - 1)))) < 0 then (0 : Int) else (S 14 ((24 * (S 18 ((S 0 29) - 1))) + (S 19 ((S 0 29) - 1)))))] by
      refine go_if_ge (tgt := 86) X d_Model_operate_79 rfl (rI_cmp _ _) (fun hq30 => ?_) (fun hq30 => ?_)
      · skip
        refine go_lload X d_Model_operate_86 rfl ?_
        refine go_top (v' := vl (if (S 14 ((24 * (S 18 ((S 0 29) - 1))) + (S 19 ((S 0 29) - 1)))) < 0 then (0 : Int) else (S 14 ((24 * (S 18 ((S 0 29) - 1))) + (S 19 ((S 0 29) - 1)))))) X (congrArg (fun q => vl q) (show S 14 ((24 * (S 18 ((S 0 29) - 1))) + (S 19 ((S 0 29) - 1))) = if (S 14 ((24 * (S 18 ((S 0 29) - 1))) + (S 19 ((S 0 29) - 1)))) < 0 then (0 : Int) else (S 14 ((24 * (S 18 ((S 0 29) - 1))) + (S 19 ((S 0 29) - 1)))) from ((if_neg (Int.not_lt.mpr (sc_ge hq30)))).symm)) ?_
        exact hv29
      · skip
        refine go_lconst (x := 0) X d_Model_operate_82 (by decide) ?_
        refine go_goto (tgt := 88) X d_Model_operate_83 rfl ?_
        refine go_top (v' := vl (if (S 14 ((24 * (S 18 ((S 0 29) - 1))) + (S 19 ((S 0 29) - 1)))) < 0 then (0 : Int) else (S 14 ((24 * (S 18 ((S 0 29) - 1))) + (S 19 ((S 0 29) - 1)))))) X (congrArg (fun q => vl q) (show 0 = if (S 14 ((24 * (S 18 ((S 0 29) - 1))) + (S 19 ((S 0 29) - 1)))) < 0 then (0 : Int) else (S 14 ((24 * (S 18 ((S 0 29) - 1))) + (S 19 ((S 0 29) - 1)))) from ((if_pos (sc_lt hq30))).symm)) ?_
        exact hv29
    refine go_lstore (lv' := [(6, vl (if (S 14 ((24 * (S 18 ((S 0 29) - 1))) + (S 19 ((S 0 29) - 1)))) < 0 then (0 : Int) else (S 14 ((24 * (S 18 ((S 0 29) - 1))) + (S 19 ((S 0 29) - 1)))))), (4, vl (S 14 ((24 * (S 18 ((S 0 29) - 1))) + (S 19 ((S 0 29) - 1))))), (3, vi (S 13 ((24 * (S 18 ((S 0 29) - 1))) + (S 19 ((S 0 29) - 1))))), (2, vi ((24 * (S 18 ((S 0 29) - 1))) + (S 19 ((S 0 29) - 1)))), (1, vi ((S 0 29) - 1)), (0, vr r)]) X d_Model_operate_88 (by decide) rfl ?_
    refine go_iload_n X d_Model_operate_90 rfl rfl ?_
    refine go_bipush (v := 13) X d_Model_operate_91 (by decide) ?_
    refine go_icmp_ne (tgt := 132) X d_Model_operate_93 rfl (rI_eq (md23.gA (by decide) ((24 * (S 18 ((S 0 29) - 1))) + (S 19 ((S 0 29) - 1)))) ((m_sk (by decide)).trans ((m_sk (by decide)).trans (rfl)))) (by decide) (fun hq31 => ?_) (fun hq31 => ?_)
    · skip
      have hF32 := if_f hF28 hq31
      refine go_iload_n X d_Model_operate_132 rfl rfl ?_
      refine go_bipush (v := 14) X d_Model_operate_133 (by decide) ?_
      refine go_icmp_ne (tgt := 159) X d_Model_operate_135 rfl (rI_eq (md23.gA (by decide) ((24 * (S 18 ((S 0 29) - 1))) + (S 19 ((S 0 29) - 1)))) ((m_sk (by decide)).trans ((m_sk (by decide)).trans (rfl)))) (by decide) (fun hq33 => ?_) (fun hq33 => ?_)
      · skip
        have hF34 := if_f hF32 hq33
        refine go_iload_n X d_Model_operate_159 rfl rfl ?_
        refine go_bipush (v := 15) X d_Model_operate_160 (by decide) ?_
        refine go_icmp_ne (tgt := 181) X d_Model_operate_162 rfl (rI_eq (md23.gA (by decide) ((24 * (S 18 ((S 0 29) - 1))) + (S 19 ((S 0 29) - 1)))) ((m_sk (by decide)).trans ((m_sk (by decide)).trans (rfl)))) (by decide) (fun hq35 => ?_) (fun hq35 => ?_)
        · skip
          have hF36 := if_f hF34 hq35
          refine go_iload_n X d_Model_operate_181 rfl rfl ?_
          refine go_bipush (v := 13) X d_Model_operate_182 (by decide) ?_
          refine go_icmp_ge (tgt := 197) X d_Model_operate_184 rfl (rI_eq (md23.gA (by decide) ((24 * (S 18 ((S 0 29) - 1))) + (S 19 ((S 0 29) - 1)))) ((m_sk (by decide)).trans ((m_sk (by decide)).trans (rfl)))) (by decide) (fun hq37 => ?_) (fun hq37 => ?_)
          · skip
            have hF38 := if_f hF36 (Int.not_lt.mpr hq37)
            refine go_iload_n X d_Model_operate_197 rfl rfl ?_
            refine go_bipush (v := 23) X d_Model_operate_198 (by decide) ?_
            refine go_icmp_ge (tgt := 213) X d_Model_operate_200 rfl (rI_eq (md23.gA (by decide) ((24 * (S 18 ((S 0 29) - 1))) + (S 19 ((S 0 29) - 1)))) ((m_sk (by decide)).trans ((m_sk (by decide)).trans (rfl)))) (by decide) (fun hq39 => ?_) (fun hq39 => ?_)
            · skip
              have hF40 := if_f hF38 (Int.not_lt.mpr hq39)
              refine go_aload_n X d_Model_operate_213 rfl rfl ?_
              refine go_iload_n X d_Model_operate_214 rfl rfl ?_
              refine go_lload X d_Model_operate_215 rfl ?_
              obtain ⟨v41, S42, hG43, hF44⟩ := bnd_t hF40
              refine go_cV (st2 := []) (r := []) X k_Model_405 (a_texts l D md23 (rI_eq (md23.gA (by decide) ((24 * (S 18 ((S 0 29) - 1))) + (S 19 ((S 0 29) - 1)))) ((m_sk (by decide)).trans ((m_sk (by decide)).trans (rfl)))) (rL_eq (md23.gL (by decide) ((24 * (S 18 ((S 0 29) - 1))) + (S 19 ((S 0 29) - 1)))) ((m_sk (by decide)).trans ((m_sk (by decide)).trans (rfl)))) hG43) md23.1.1 rfl rfl (by decide) (Nat.le_of_ble_eq_true rfl) d_Model_operate_217 (by decide) (by decide) (fun v' sh' M45 sz' hpp => ?_)
              obtain ⟨e1, e2, e3, md46⟩ := hpp
              subst e1
              rw [e2, e3]
              clear e2 e3
              show Go g 0 0 sh M45 sz 220 [(6, vl (if (S 14 ((24 * (S 18 ((S 0 29) - 1))) + (S 19 ((S 0 29) - 1)))) < 0 then (0 : Int) else (S 14 ((24 * (S 18 ((S 0 29) - 1))) + (S 19 ((S 0 29) - 1)))))), (4, vl (S 14 ((24 * (S 18 ((S 0 29) - 1))) + (S 19 ((S 0 29) - 1))))), (3, vi (S 13 ((24 * (S 18 ((S 0 29) - 1))) + (S 19 ((S 0 29) - 1))))), (2, vi ((24 * (S 18 ((S 0 29) - 1))) + (S 19 ((S 0 29) - 1)))), (1, vi ((S 0 29) - 1)), (0, vr r)] []
              refine go_lv (lv' := [(0, vr r)]) X [5] rfl ?_
              exact hJ220  S42 M45  md46 hF44
            · skip
              have hF48 := if_t hF38 hq39
              refine go_aload_n X d_Model_operate_203 rfl rfl ?_
              refine go_iload_n X d_Model_operate_204 rfl rfl ?_
              refine go_lload X d_Model_operate_205 rfl ?_
              obtain ⟨v49, S50, hG51, hF52⟩ := bnd_t hF48
              refine go_cV (st2 := []) (r := []) X k_Model_402 (a_more l D md23 (rI_eq (md23.gA (by decide) ((24 * (S 18 ((S 0 29) - 1))) + (S 19 ((S 0 29) - 1)))) ((m_sk (by decide)).trans ((m_sk (by decide)).trans (rfl)))) (rL_eq (md23.gL (by decide) ((24 * (S 18 ((S 0 29) - 1))) + (S 19 ((S 0 29) - 1)))) ((m_sk (by decide)).trans ((m_sk (by decide)).trans (rfl)))) hG51) md23.1.1 rfl rfl (by decide) (Nat.le_of_ble_eq_true rfl) d_Model_operate_207 (by decide) (by decide) (fun v' sh' M53 sz' hpp => ?_)
              obtain ⟨e1, e2, e3, md54⟩ := hpp
              subst e1
              rw [e2, e3]
              clear e2 e3
              show Go g 0 0 sh M53 sz 210 [(6, vl (if (S 14 ((24 * (S 18 ((S 0 29) - 1))) + (S 19 ((S 0 29) - 1)))) < 0 then (0 : Int) else (S 14 ((24 * (S 18 ((S 0 29) - 1))) + (S 19 ((S 0 29) - 1)))))), (4, vl (S 14 ((24 * (S 18 ((S 0 29) - 1))) + (S 19 ((S 0 29) - 1))))), (3, vi (S 13 ((24 * (S 18 ((S 0 29) - 1))) + (S 19 ((S 0 29) - 1))))), (2, vi ((24 * (S 18 ((S 0 29) - 1))) + (S 19 ((S 0 29) - 1)))), (1, vi ((S 0 29) - 1)), (0, vr r)] []
              refine go_goto (tgt := 220) X d_Model_operate_210 rfl ?_
              refine go_lv (lv' := [(0, vr r)]) X [5] rfl ?_
              exact hJ220  S50 M53  md54 hF52
          · skip
            have hF56 := if_t hF36 hq37
            refine go_aload_n X d_Model_operate_187 rfl rfl ?_
            refine go_iload_n X d_Model_operate_188 rfl rfl ?_
            refine go_lload X d_Model_operate_189 rfl ?_
            obtain ⟨v57, S58, hG59, hF60⟩ := bnd_t hF56
            refine go_cV (st2 := []) (r := []) X k_Model_398 (a_simple l D md23 (rI_eq (md23.gA (by decide) ((24 * (S 18 ((S 0 29) - 1))) + (S 19 ((S 0 29) - 1)))) ((m_sk (by decide)).trans ((m_sk (by decide)).trans (rfl)))) (rL_eq (md23.gL (by decide) ((24 * (S 18 ((S 0 29) - 1))) + (S 19 ((S 0 29) - 1)))) ((m_sk (by decide)).trans ((m_sk (by decide)).trans (rfl)))) hG59) md23.1.1 rfl rfl (by decide) (Nat.le_of_ble_eq_true rfl) d_Model_operate_191 (by decide) (by decide) (fun v' sh' M61 sz' hpp => ?_)
            obtain ⟨e1, e2, e3, md62⟩ := hpp
            subst e1
            rw [e2, e3]
            clear e2 e3
            show Go g 0 0 sh M61 sz 194 [(6, vl (if (S 14 ((24 * (S 18 ((S 0 29) - 1))) + (S 19 ((S 0 29) - 1)))) < 0 then (0 : Int) else (S 14 ((24 * (S 18 ((S 0 29) - 1))) + (S 19 ((S 0 29) - 1)))))), (4, vl (S 14 ((24 * (S 18 ((S 0 29) - 1))) + (S 19 ((S 0 29) - 1))))), (3, vi (S 13 ((24 * (S 18 ((S 0 29) - 1))) + (S 19 ((S 0 29) - 1))))), (2, vi ((24 * (S 18 ((S 0 29) - 1))) + (S 19 ((S 0 29) - 1)))), (1, vi ((S 0 29) - 1)), (0, vr r)] []
            refine go_goto (tgt := 220) X d_Model_operate_194 rfl ?_
            refine go_lv (lv' := [(0, vr r)]) X [5] rfl ?_
            exact hJ220  S58 M61  md62 hF60
        · skip
          have hF64 := if_t hF34 hq35
          refine go_aload_n X d_Model_operate_165 rfl rfl ?_
          refine go_lload X d_Model_operate_166 rfl ?_
          refine go_ldc2 (x := 6) X w_kl_Model_392 (by decide) d_Model_operate_168 ?_
          refine go_lrem (z := l_mod (if (S 14 ((24 * (S 18 ((S 0 29) - 1))) + (S 19 ((S 0 29) - 1)))) < 0 then (0 : Int) else (S 14 ((24 * (S 18 ((S 0 29) - 1))) + (S 19 ((S 0 29) - 1))))) 6) X d_Model_operate_171 (by decide) (Int64.ofInt_toInt _).symm ?_
          refine go_l2i X d_Model_operate_172 ?_
          refine go_top (v' := vi (wi32 (l_mod (if (S 14 ((24 * (S 18 ((S 0 29) - 1))) + (S 19 ((S 0 29) - 1)))) < 0 then (0 : Int) else (S 14 ((24 * (S 18 ((S 0 29) - 1))) + (S 19 ((S 0 29) - 1))))) 6))) X (wi32_vi _) ?_
          refine go_iconst (v := 0) X d_Model_operate_173 ?_
          refine go_lconst (x := 0) X d_Model_operate_174 (by decide) ?_
          obtain ⟨v65, S66, hG67, hF68⟩ := bnd_t hF64
          refine go_cV (st2 := []) (r := []) X k_Model_394 (a_push l D md23 (wi32_rng _) (by decide) (by decide) hG67) md23.1.1 rfl rfl (by decide) (Nat.le_of_ble_eq_true rfl) d_Model_operate_175 (by decide) (by decide) (fun v' sh' M69 sz' hpp => ?_)
          obtain ⟨e1, e2, e3, md70⟩ := hpp
          subst e1
          rw [e2, e3]
          clear e2 e3
          show Go g 0 0 sh M69 sz 178 [(6, vl (if (S 14 ((24 * (S 18 ((S 0 29) - 1))) + (S 19 ((S 0 29) - 1)))) < 0 then (0 : Int) else (S 14 ((24 * (S 18 ((S 0 29) - 1))) + (S 19 ((S 0 29) - 1)))))), (4, vl (S 14 ((24 * (S 18 ((S 0 29) - 1))) + (S 19 ((S 0 29) - 1))))), (3, vi (S 13 ((24 * (S 18 ((S 0 29) - 1))) + (S 19 ((S 0 29) - 1))))), (2, vi ((24 * (S 18 ((S 0 29) - 1))) + (S 19 ((S 0 29) - 1)))), (1, vi ((S 0 29) - 1)), (0, vr r)] []
          refine go_goto (tgt := 220) X d_Model_operate_178 rfl ?_
          refine go_lv (lv' := [(0, vr r)]) X [5] rfl ?_
          exact hJ220  S66 M69  md70 hF68
      · skip
        have hF72 := if_t hF32 hq33
        refine go_aload_n X d_Model_operate_138 rfl rfl ?_
        refine go_lload X d_Model_operate_139 rfl ?_
        refine go_ldc2 (x := 6) X w_kl_Model_392 (by decide) d_Model_operate_141 ?_
        refine go_ldiv (z := l_quo (if (S 14 ((24 * (S 18 ((S 0 29) - 1))) + (S 19 ((S 0 29) - 1)))) < 0 then (0 : Int) else (S 14 ((24 * (S 18 ((S 0 29) - 1))) + (S 19 ((S 0 29) - 1))))) 6) X d_Model_operate_144 (by decide) (Int64.ofInt_toInt _).symm ?_
        refine go_ldc2 (x := 6) X w_kl_Model_392 (by decide) d_Model_operate_145 ?_
        refine go_lrem (z := l_mod (l_quo (if (S 14 ((24 * (S 18 ((S 0 29) - 1))) + (S 19 ((S 0 29) - 1)))) < 0 then (0 : Int) else (S 14 ((24 * (S 18 ((S 0 29) - 1))) + (S 19 ((S 0 29) - 1))))) 6) 6) X d_Model_operate_148 (by decide) (Int64.ofInt_toInt _).symm ?_
        refine go_l2i X d_Model_operate_149 ?_
        refine go_top (v' := vi (wi32 (l_mod (l_quo (if (S 14 ((24 * (S 18 ((S 0 29) - 1))) + (S 19 ((S 0 29) - 1)))) < 0 then (0 : Int) else (S 14 ((24 * (S 18 ((S 0 29) - 1))) + (S 19 ((S 0 29) - 1))))) 6) 6))) X (wi32_vi _) ?_
        refine go_iconst (v := 1) X d_Model_operate_150 ?_
        refine go_lload X d_Model_operate_151 rfl ?_
        obtain ⟨v73, S74, hG75, hF76⟩ := bnd_t hF72
        refine go_cV (st2 := []) (r := []) X k_Model_394 (a_push l D md23 (wi32_rng _) (by decide) (rL_ite (by decide) (rL_eq (md23.gL (by decide) ((24 * (S 18 ((S 0 29) - 1))) + (S 19 ((S 0 29) - 1)))) ((m_sk (by decide)).trans ((m_sk (by decide)).trans (rfl))))) hG75) md23.1.1 rfl rfl (by decide) (Nat.le_of_ble_eq_true rfl) d_Model_operate_153 (by decide) (by decide) (fun v' sh' M77 sz' hpp => ?_)
        obtain ⟨e1, e2, e3, md78⟩ := hpp
        subst e1
        rw [e2, e3]
        clear e2 e3
        show Go g 0 0 sh M77 sz 156 [(6, vl (if (S 14 ((24 * (S 18 ((S 0 29) - 1))) + (S 19 ((S 0 29) - 1)))) < 0 then (0 : Int) else (S 14 ((24 * (S 18 ((S 0 29) - 1))) + (S 19 ((S 0 29) - 1)))))), (4, vl (S 14 ((24 * (S 18 ((S 0 29) - 1))) + (S 19 ((S 0 29) - 1))))), (3, vi (S 13 ((24 * (S 18 ((S 0 29) - 1))) + (S 19 ((S 0 29) - 1))))), (2, vi ((24 * (S 18 ((S 0 29) - 1))) + (S 19 ((S 0 29) - 1)))), (1, vi ((S 0 29) - 1)), (0, vr r)] []
        refine go_goto (tgt := 220) X d_Model_operate_156 rfl ?_
        refine go_lv (lv' := [(0, vr r)]) X [5] rfl ?_
        exact hJ220  S74 M77  md78 hF76
    · skip
      have hF80 := if_t hF28 hq31
      refine go_aload_n X d_Model_operate_96 rfl rfl ?_
      refine go_aload_n X d_Model_operate_97 rfl rfl ?_
      obtain ⟨v81, S82, hG83, hF84⟩ := bnd_t hF80
      refine go_cV (st2 := []) (r := [vr r]) X k_Model_292 (a_number l D md23 hG83) md23.1.1 rfl rfl (by decide) (Nat.le_of_ble_eq_true rfl) d_Model_operate_98 (by decide) (by decide) (fun v' sh' M85 sz' hpp => ?_)
      obtain ⟨e1, e2, e3, hv87, md86⟩ := hpp
      subst e1
      rw [e2, e3]
      clear e2 e3
      show Go g 0 0 sh M85 sz 101 [(6, vl (if (S 14 ((24 * (S 18 ((S 0 29) - 1))) + (S 19 ((S 0 29) - 1)))) < 0 then (0 : Int) else (S 14 ((24 * (S 18 ((S 0 29) - 1))) + (S 19 ((S 0 29) - 1)))))), (4, vl (S 14 ((24 * (S 18 ((S 0 29) - 1))) + (S 19 ((S 0 29) - 1))))), (3, vi (S 13 ((24 * (S 18 ((S 0 29) - 1))) + (S 19 ((S 0 29) - 1))))), (2, vi ((24 * (S 18 ((S 0 29) - 1))) + (S 19 ((S 0 29) - 1)))), (1, vi ((S 0 29) - 1)), (0, vr r)] [vi v81, vr r]
      suffices hv88 : Go g 0 0 sh M85 sz 123 [(6, vl (if (S 14 ((24 * (S 18 ((S 0 29) - 1))) + (S 19 ((S 0 29) - 1)))) < 0 then (0 : Int) else (S 14 ((24 * (S 18 ((S 0 29) - 1))) + (S 19 ((S 0 29) - 1)))))), (4, vl (S 14 ((24 * (S 18 ((S 0 29) - 1))) + (S 19 ((S 0 29) - 1))))), (3, vi (S 13 ((24 * (S 18 ((S 0 29) - 1))) + (S 19 ((S 0 29) - 1))))), (2, vi ((24 * (S 18 ((S 0 29) - 1))) + (S 19 ((S 0 29) - 1)))), (1, vi ((S 0 29) - 1)), (0, vr r)] [vl (if 0 < v81 then (l_mod (l_quo (if (S 14 ((24 * (S 18 ((S 0 29) - 1))) + (S 19 ((S 0 29) - 1)))) < 0 then (0 : Int) else (S 14 ((24 * (S 18 ((S 0 29) - 1))) + (S 19 ((S 0 29) - 1))))) 6) 6 : Int) else (l_mod (if (S 14 ((24 * (S 18 ((S 0 29) - 1))) + (S 19 ((S 0 29) - 1)))) < 0 then (0 : Int) else (S 14 ((24 * (S 18 ((S 0 29) - 1))) + (S 19 ((S 0 29) - 1))))) 6)), vr r] by
        refine go_if_le (tgt := 117) X d_Model_operate_101 rfl hv87 (fun hq89 => ?_) (fun hq89 => ?_)
        · skip
          refine go_lload X d_Model_operate_117 rfl ?_
          refine go_ldc2 (x := 6) X w_kl_Model_392 (by decide) d_Model_operate_119 ?_
          refine go_lrem (z := l_mod (if (S 14 ((24 * (S 18 ((S 0 29) - 1))) + (S 19 ((S 0 29) - 1)))) < 0 then (0 : Int) else (S 14 ((24 * (S 18 ((S 0 29) - 1))) + (S 19 ((S 0 29) - 1))))) 6) X d_Model_operate_122 (by decide) (Int64.ofInt_toInt _).symm ?_
          refine go_top (v' := vl (if 0 < v81 then (l_mod (l_quo (if (S 14 ((24 * (S 18 ((S 0 29) - 1))) + (S 19 ((S 0 29) - 1)))) < 0 then (0 : Int) else (S 14 ((24 * (S 18 ((S 0 29) - 1))) + (S 19 ((S 0 29) - 1))))) 6) 6 : Int) else (l_mod (if (S 14 ((24 * (S 18 ((S 0 29) - 1))) + (S 19 ((S 0 29) - 1)))) < 0 then (0 : Int) else (S 14 ((24 * (S 18 ((S 0 29) - 1))) + (S 19 ((S 0 29) - 1))))) 6))) X (congrArg (fun q => vl q) (show l_mod (if (S 14 ((24 * (S 18 ((S 0 29) - 1))) + (S 19 ((S 0 29) - 1)))) < 0 then (0 : Int) else (S 14 ((24 * (S 18 ((S 0 29) - 1))) + (S 19 ((S 0 29) - 1))))) 6 = if 0 < v81 then (l_mod (l_quo (if (S 14 ((24 * (S 18 ((S 0 29) - 1))) + (S 19 ((S 0 29) - 1)))) < 0 then (0 : Int) else (S 14 ((24 * (S 18 ((S 0 29) - 1))) + (S 19 ((S 0 29) - 1))))) 6) 6 : Int) else (l_mod (if (S 14 ((24 * (S 18 ((S 0 29) - 1))) + (S 19 ((S 0 29) - 1)))) < 0 then (0 : Int) else (S 14 ((24 * (S 18 ((S 0 29) - 1))) + (S 19 ((S 0 29) - 1))))) 6) from ((if_neg (Int.not_lt.mpr hq89))).symm)) ?_
          exact hv88
        · skip
          refine go_lload X d_Model_operate_104 rfl ?_
          refine go_ldc2 (x := 6) X w_kl_Model_392 (by decide) d_Model_operate_106 ?_
          refine go_ldiv (z := l_quo (if (S 14 ((24 * (S 18 ((S 0 29) - 1))) + (S 19 ((S 0 29) - 1)))) < 0 then (0 : Int) else (S 14 ((24 * (S 18 ((S 0 29) - 1))) + (S 19 ((S 0 29) - 1))))) 6) X d_Model_operate_109 (by decide) (Int64.ofInt_toInt _).symm ?_
          refine go_ldc2 (x := 6) X w_kl_Model_392 (by decide) d_Model_operate_110 ?_
          refine go_lrem (z := l_mod (l_quo (if (S 14 ((24 * (S 18 ((S 0 29) - 1))) + (S 19 ((S 0 29) - 1)))) < 0 then (0 : Int) else (S 14 ((24 * (S 18 ((S 0 29) - 1))) + (S 19 ((S 0 29) - 1))))) 6) 6) X d_Model_operate_113 (by decide) (Int64.ofInt_toInt _).symm ?_
          refine go_goto (tgt := 123) X d_Model_operate_114 rfl ?_
          refine go_top (v' := vl (if 0 < v81 then (l_mod (l_quo (if (S 14 ((24 * (S 18 ((S 0 29) - 1))) + (S 19 ((S 0 29) - 1)))) < 0 then (0 : Int) else (S 14 ((24 * (S 18 ((S 0 29) - 1))) + (S 19 ((S 0 29) - 1))))) 6) 6 : Int) else (l_mod (if (S 14 ((24 * (S 18 ((S 0 29) - 1))) + (S 19 ((S 0 29) - 1)))) < 0 then (0 : Int) else (S 14 ((24 * (S 18 ((S 0 29) - 1))) + (S 19 ((S 0 29) - 1))))) 6))) X (congrArg (fun q => vl q) (show l_mod (l_quo (if (S 14 ((24 * (S 18 ((S 0 29) - 1))) + (S 19 ((S 0 29) - 1)))) < 0 then (0 : Int) else (S 14 ((24 * (S 18 ((S 0 29) - 1))) + (S 19 ((S 0 29) - 1))))) 6) 6 = if 0 < v81 then (l_mod (l_quo (if (S 14 ((24 * (S 18 ((S 0 29) - 1))) + (S 19 ((S 0 29) - 1)))) < 0 then (0 : Int) else (S 14 ((24 * (S 18 ((S 0 29) - 1))) + (S 19 ((S 0 29) - 1))))) 6) 6 : Int) else (l_mod (if (S 14 ((24 * (S 18 ((S 0 29) - 1))) + (S 19 ((S 0 29) - 1)))) < 0 then (0 : Int) else (S 14 ((24 * (S 18 ((S 0 29) - 1))) + (S 19 ((S 0 29) - 1))))) 6) from ((if_pos hq89)).symm)) ?_
          exact hv88
      refine go_l2i X d_Model_operate_123 ?_
      refine go_top (v' := vi (wi32 (if 0 < v81 then (l_mod (l_quo (if (S 14 ((24 * (S 18 ((S 0 29) - 1))) + (S 19 ((S 0 29) - 1)))) < 0 then (0 : Int) else (S 14 ((24 * (S 18 ((S 0 29) - 1))) + (S 19 ((S 0 29) - 1))))) 6) 6 : Int) else (l_mod (if (S 14 ((24 * (S 18 ((S 0 29) - 1))) + (S 19 ((S 0 29) - 1)))) < 0 then (0 : Int) else (S 14 ((24 * (S 18 ((S 0 29) - 1))) + (S 19 ((S 0 29) - 1))))) 6)))) X (wi32_vi _) ?_
      refine go_iconst (v := 0) X d_Model_operate_124 ?_
      refine go_lconst (x := 0) X d_Model_operate_125 (by decide) ?_
      obtain ⟨v90, S91, hG92, hF93⟩ := bnd_t hF84
      refine go_cV (st2 := []) (r := []) X k_Model_394 (a_push l D md86 (wi32_rng _) (by decide) (by decide) hG92) md86.1.1 rfl rfl (by decide) (Nat.le_of_ble_eq_true rfl) d_Model_operate_126 (by decide) (by decide) (fun v' sh' M94 sz' hpp => ?_)
      obtain ⟨e1, e2, e3, md95⟩ := hpp
      subst e1
      rw [e2, e3]
      clear e2 e3
      show Go g 0 0 sh M94 sz 129 [(6, vl (if (S 14 ((24 * (S 18 ((S 0 29) - 1))) + (S 19 ((S 0 29) - 1)))) < 0 then (0 : Int) else (S 14 ((24 * (S 18 ((S 0 29) - 1))) + (S 19 ((S 0 29) - 1)))))), (4, vl (S 14 ((24 * (S 18 ((S 0 29) - 1))) + (S 19 ((S 0 29) - 1))))), (3, vi (S 13 ((24 * (S 18 ((S 0 29) - 1))) + (S 19 ((S 0 29) - 1))))), (2, vi ((24 * (S 18 ((S 0 29) - 1))) + (S 19 ((S 0 29) - 1)))), (1, vi ((S 0 29) - 1)), (0, vr r)] []
      refine go_goto (tgt := 220) X d_Model_operate_129 rfl ?_
      refine go_lv (lv' := [(0, vr r)]) X [5] rfl ?_
      exact hJ220  S91 M94  md95 hF93
  · skip
    have hF97 := if_t hF hq1
    refine go_aload_n X d_Model_operate_10 rfl rfl ?_
    refine go_iconst (v := 1) X d_Model_operate_11 ?_
    refine go_put (x := 1) (v := vi 1) X f_Model_386 h.1.1 rfl d_Model_operate_12 rfl (n_nz (by decide)) (n_fz (by decide)) ?_
    have md98 : mq sh M0 (m_s M r 32 1) r (m_s S 0 32 1) := h.put0 (by decide) ((rg_B (by decide) (by decide) (by decide)))
    generalize m_s M r 32 1 = M99 at md98 ⊢
    exact go_vret X d_Model_operate_15 rfl (by decide) (by decide) (ret_v hF97 md98)
def A_once_j70 (N : Nat) (S : s_M) : rO := some (0, S)
theorem A_once_j70_e (N : Nat) (S : s_M) : A_once_j70 N S = (some (0, S)) := rfl
def A_once_l12 (N : Nat) : Nat → s_M → rO
  | 0, _ => none
  | n + 1, S => if 0 < (S 0 29) then (if (S 0 32) = 0 then (chk (rI ((S 0 29) - 1)) <| chk (0 ≤ ((S 0 29) - 1) ∧ ((S 0 29) - 1) < 8) <| chk (rI ((S 0 29) - 1)) <| chk (0 ≤ ((S 0 29) - 1) ∧ ((S 0 29) - 1) < 8) <| chk (0 ≤ (S 18 ((S 0 29) - 1)) ∧ (S 18 ((S 0 29) - 1)) < 6) <| if (S 19 ((S 0 29) - 1)) < (S 12 (S 18 ((S 0 29) - 1))) then (bnd (A_operate N S) fun v27 S28 => (A_once_l12 N n)  S28) else (bnd (A_ended N S) fun v19 S20 => (A_once_l12 N n)  S20)) else (A_once_j70 N  S)) else (A_once_j70 N  S)
theorem A_once_l12_e (N : Nat) (n : Nat) (S : s_M) : A_once_l12 N (n + 1) S = (if 0 < (S 0 29) then (if (S 0 32) = 0 then (chk (rI ((S 0 29) - 1)) <| chk (0 ≤ ((S 0 29) - 1) ∧ ((S 0 29) - 1) < 8) <| chk (rI ((S 0 29) - 1)) <| chk (0 ≤ ((S 0 29) - 1) ∧ ((S 0 29) - 1) < 8) <| chk (0 ≤ (S 18 ((S 0 29) - 1)) ∧ (S 18 ((S 0 29) - 1)) < 6) <| if (S 19 ((S 0 29) - 1)) < (S 12 (S 18 ((S 0 29) - 1))) then (bnd (A_operate N S) fun v27 S28 => (A_once_l12 N n)  S28) else (bnd (A_ended N S) fun v19 S20 => (A_once_l12 N n)  S20)) else (A_once_j70 N  S)) else (A_once_j70 N  S)) := rfl
def A_once (N : Nat) (x1 : Int) (S : s_M) : rO := bnd (A_push N x1 0 0 (m_s S 0 29 0)) fun v36 S37 => A_once_l12 N N  S37
theorem A_once_e (N : Nat) (x1 : Int) (S : s_M) : A_once N x1 S = (bnd (A_push N x1 0 0 (m_s S 0 29 0)) fun v36 S37 => A_once_l12 N N  S37) := rfl
set_option maxHeartbeats 4000000 in
set_option maxRecDepth 100000 in
theorem a_once (l : Launch) (D : va_G) {sh : s_S} {M0 M : s_M} {sz r x1 : Int} {N : Nat} {S S0 : s_M} {v0 : Int} (h : mq sh M0 M r S) (hx1 : rI x1) (hF : A_once N x1 S = some (v0, S0)) : Sp l D y_Model_once prog_14_method_86_code 2 none 9 0 0 [vr r, vi x1] sh M sz (fun v' sh' M' sz' => v' = none ∧ sh' = sh ∧ sz' = sz ∧ mq sh M0 M' r S0) := by
  have hr0 := h.1.2.1
  refine Sp.ofGo (own := "CiteForgeModel") (nm := "once") (by decide) rfl rfl (Nat.le_of_ble_eq_true rfl) (lv := [(0, vr r), (1, vi x1)]) rfl ?_
  intro g X
  have hJ70 : ∀ (S1 M1 : s_M), mq sh M0 M1 r S1 → A_once_j70 N S1 = some (v0, S0) → Go g 0 0 sh M1 sz 70 [(0, vr r)] [] := by
    intro S1 M1 hm hF
    rw [A_once_j70_e] at hF
    exact go_vret X d_Model_once_70 rfl (by decide) (by decide) (ret_v hF hm)
  have hL12 : ∀ (n12 : Nat) (S1 M1 : s_M), mq sh M0 M1 r S1 → A_once_l12 N n12 S1 = some (v0, S0) → Go g 0 0 sh M1 sz 12 [(0, vr r)] [] := by
    intro n12
    induction n12 with
    | zero => intro S1 M1 hm hF; cases hF
    | succ n12 ih12 =>
      intro S1 M1 hm hF
      rw [A_once_l12_e] at hF
      refine go_aload_n X d_Model_once_12 rfl rfl ?_
      refine go_get (v := vi (S1 0 29)) X f_Model_383 hm.1.1 rfl d_Model_once_13 (congrArg (s_v .int) ((hm.s 29).trans (rfl))) ?_
      refine go_if_le (tgt := 70) X d_Model_once_16 rfl (hm.gS 29 (by decide) (by decide)) (fun hq1 => ?_) (fun hq1 => ?_)
      · skip
        have hF2 := if_f hF (Int.not_lt.mpr hq1)
        refine go_lv (lv' := [(0, vr r)]) X [0] rfl ?_
        exact hJ70  S1 M1  hm hF2
      · skip
        have hF3 := if_t hF hq1
        refine go_aload_n X d_Model_once_19 rfl rfl ?_
        refine go_get (v := vi (S1 0 32)) X f_Model_386 hm.1.1 rfl d_Model_once_20 (congrArg (s_v .boolean) ((hm.s 32).trans (rfl))) ?_
        refine go_if_ne (tgt := 70) X d_Model_once_23 rfl (rI_z (hm.gB 32 (by decide) (by decide))) (fun hq4 => ?_) (fun hq4 => ?_)
        · skip
          have hF5 := if_f hF3 hq4
          refine go_lv (lv' := [(0, vr r)]) X [0] rfl ?_
          exact hJ70  S1 M1  hm hF5
        · skip
          have hF6 := if_t hF3 hq4
          refine go_aload_n X d_Model_once_26 rfl rfl ?_
          refine go_get (v := vr (r + 19)) X f_Model_65 hm.1.1 rfl d_Model_once_27 (s_varr (hm.1.2.2 18 _ rfl).2 (by omega)) ?_
          refine go_aload_n X d_Model_once_30 rfl rfl ?_
          refine go_get (v := vi (S1 0 29)) X f_Model_383 hm.1.1 rfl d_Model_once_31 (congrArg (s_v .int) ((hm.s 29).trans (rfl))) ?_
          refine go_iconst (v := 1) X d_Model_once_34 ?_
          refine go_isub X d_Model_once_35 ?_
          obtain ⟨hc7, hF8⟩ := chk_t hF6
          obtain ⟨hc9, hF10⟩ := chk_t hF8
          refine go_iald X (hm.1.2.2 18 _ rfl).1 (by decide) hc9 d_Model_once_36 ?_
          refine go_top (v' := vi (S1 19 ((S1 0 29) - 1))) X (congrArg (fun q => vi q) ((hm.a (by decide) ((S1 0 29) - 1)).trans (rfl))) ?_
          refine go_aload_n X d_Model_once_37 rfl rfl ?_
          refine go_get (v := vr (r + 12)) X f_Model_44 hm.1.1 rfl d_Model_once_38 (s_varr (hm.1.2.2 11 _ rfl).2 (by omega)) ?_
          refine go_aload_n X d_Model_once_41 rfl rfl ?_
          refine go_get (v := vr (r + 18)) X f_Model_62 hm.1.1 rfl d_Model_once_42 (s_varr (hm.1.2.2 17 _ rfl).2 (by omega)) ?_
          refine go_aload_n X d_Model_once_45 rfl rfl ?_
          refine go_get (v := vi (S1 0 29)) X f_Model_383 hm.1.1 rfl d_Model_once_46 (congrArg (s_v .int) ((hm.s 29).trans (rfl))) ?_
          refine go_iconst (v := 1) X d_Model_once_49 ?_
          refine go_isub X d_Model_once_50 ?_
          obtain ⟨hc11, hF12⟩ := chk_t hF10
          obtain ⟨hc13, hF14⟩ := chk_t hF12
          refine go_iald X (hm.1.2.2 17 _ rfl).1 (by decide) hc13 d_Model_once_51 ?_
          refine go_top (v' := vi (S1 18 ((S1 0 29) - 1))) X (congrArg (fun q => vi q) ((hm.a (by decide) ((S1 0 29) - 1)).trans (rfl))) ?_
          obtain ⟨hc15, hF16⟩ := chk_t hF14
          refine go_iald X (hm.1.2.2 11 _ rfl).1 (by decide) hc15 d_Model_once_52 ?_
          refine go_top (v' := vi (S1 12 (S1 18 ((S1 0 29) - 1)))) X (congrArg (fun q => vi q) ((hm.a (by decide) (S1 18 ((S1 0 29) - 1))).trans (rfl))) ?_
          refine go_icmp_ge (tgt := 63) X d_Model_once_53 rfl (hm.gA (by decide) ((S1 0 29) - 1)) (hm.gA (by decide) (S1 18 ((S1 0 29) - 1))) (fun hq17 => ?_) (fun hq17 => ?_)
          · skip
            have hF18 := if_f hF16 (Int.not_lt.mpr hq17)
            refine go_aload_n X d_Model_once_63 rfl rfl ?_
            obtain ⟨v19, S20, hG21, hF22⟩ := bnd_t hF18
            refine go_cV (st2 := []) (r := []) X k_Model_411 (a_ended l D hm hG21) hm.1.1 rfl rfl (by decide) (Nat.le_of_ble_eq_true rfl) d_Model_once_64 (by decide) (by decide) (fun v' sh' M23 sz' hpp => ?_)
            obtain ⟨e1, e2, e3, md24⟩ := hpp
            subst e1
            rw [e2, e3]
            clear e2 e3
            show Go g 0 0 sh M23 sz 67 [(0, vr r)] []
            refine go_goto (tgt := 12) X d_Model_once_67 rfl ?_
            refine go_lv (lv' := [(0, vr r)]) X [0] rfl ?_
            exact ih12  S20 M23  md24 hF22
          · skip
            have hF26 := if_t hF16 hq17
            refine go_aload_n X d_Model_once_56 rfl rfl ?_
            obtain ⟨v27, S28, hG29, hF30⟩ := bnd_t hF26
            refine go_cV (st2 := []) (r := []) X k_Model_408 (a_operate l D hm hG29) hm.1.1 rfl rfl (by decide) (Nat.le_of_ble_eq_true rfl) d_Model_once_57 (by decide) (by decide) (fun v' sh' M31 sz' hpp => ?_)
            obtain ⟨e1, e2, e3, md32⟩ := hpp
            subst e1
            rw [e2, e3]
            clear e2 e3
            show Go g 0 0 sh M31 sz 60 [(0, vr r)] []
            refine go_goto (tgt := 12) X d_Model_once_60 rfl ?_
            refine go_lv (lv' := [(0, vr r)]) X [0] rfl ?_
            exact ih12  S28 M31  md32 hF30
  rw [A_once_e] at hF
  refine go_aload_n X d_Model_once_0 rfl rfl ?_
  refine go_iconst (v := 0) X d_Model_once_1 ?_
  refine go_put (x := 0) (v := vi 0) X f_Model_383 h.1.1 rfl d_Model_once_2 rfl rfl rfl ?_
  have md34 : mq sh M0 (m_s M r 29 0) r (m_s S 0 29 0) := h.put0 (by decide) ((rg_S (by decide) (by decide) (by decide)))
  generalize m_s M r 29 0 = M35 at md34 ⊢
  refine go_aload_n X d_Model_once_5 rfl rfl ?_
  refine go_iload_n X d_Model_once_6 rfl rfl ?_
  refine go_iconst (v := 0) X d_Model_once_7 ?_
  refine go_lconst (x := 0) X d_Model_once_8 (by decide) ?_
  obtain ⟨v36, S37, hG38, hF39⟩ := bnd_t hF
  refine go_cV (st2 := []) (r := []) X k_Model_394 (a_push l D md34 hx1 (by decide) (by decide) hG38) md34.1.1 rfl rfl (by decide) (Nat.le_of_ble_eq_true rfl) d_Model_once_9 (by decide) (by decide) (fun v' sh' M40 sz' hpp => ?_)
  obtain ⟨e1, e2, e3, md41⟩ := hpp
  subst e1
  rw [e2, e3]
  clear e2 e3
  show Go g 0 0 sh M40 sz 12 [(0, vr r), (1, vi x1)] []
  refine go_lv (lv' := [(0, vr r)]) X [0] rfl ?_
  exact hL12 N  S37 M40  md41 hF39
def A_run_j130 (N : Nat) (y0 : Int) (S : s_M) : rO := some (y0, S)
theorem A_run_j130_e (N : Nat) (y0 : Int) (S : s_M) : A_run_j130 N y0 S = (some (y0, S)) := rfl
def A_run_j111 (N : Nat) (S : s_M) : rO := if (S 0 32) = 0 then (A_run_j130 N (S 0 30) S) else (bnd (A_fail N 2 S) fun v4 S5 => A_run_j130 N v4 S5)
theorem A_run_j111_e (N : Nat) (S : s_M) : A_run_j111 N S = (if (S 0 32) = 0 then (A_run_j130 N (S 0 30) S) else (bnd (A_fail N 2 S) fun v4 S5 => A_run_j130 N v4 S5)) := rfl
def A_run_j96 (N : Nat) (k55 : Int → Int → Int → s_M → rO) (x1 x2 x3 y0 : Int) (S : s_M) : rO := chk (0 ≤ y0 ∧ y0 < 8) <| bnd (A_once N x1 (m_s S 0 31 (S 11 y0))) fun v15 S16 => chk (rI (x3 + 1)) <| k55 x1 x2 (x3 + 1) S16
theorem A_run_j96_e (N : Nat) (k55 : Int → Int → Int → s_M → rO) (x1 x2 x3 y0 : Int) (S : s_M) : A_run_j96 N k55 x1 x2 x3 y0 S = (chk (0 ≤ y0 ∧ y0 < 8) <| bnd (A_once N x1 (m_s S 0 31 (S 11 y0))) fun v15 S16 => chk (rI (x3 + 1)) <| k55 x1 x2 (x3 + 1) S16) := rfl
def A_run_l55 (N : Nat) : Nat → Int → Int → Int → s_M → rO
  | 0, _, _, _, _ => none
  | n + 1, x1, x2, x3, S => if 0 < x2 then (if x3 < (S 0 15) then (if (S 0 32) = 0 then (if x2 = 1 then (A_run_j96 N (A_run_l55 N n) x1 x2 x3 x3 S) else (chk (rI ((S 0 15) - 1)) <| chk (rI (((S 0 15) - 1) - x3)) <| A_run_j96 N (A_run_l55 N n) x1 x2 x3 (((S 0 15) - 1) - x3) S)) else (A_run_j111 N  S)) else (A_run_j111 N  S)) else (A_run_j111 N  S)
theorem A_run_l55_e (N : Nat) (n : Nat) (x1 x2 x3 : Int) (S : s_M) : A_run_l55 N (n + 1) x1 x2 x3 S = (if 0 < x2 then (if x3 < (S 0 15) then (if (S 0 32) = 0 then (if x2 = 1 then (A_run_j96 N (A_run_l55 N n) x1 x2 x3 x3 S) else (chk (rI ((S 0 15) - 1)) <| chk (rI (((S 0 15) - 1) - x3)) <| A_run_j96 N (A_run_l55 N n) x1 x2 x3 (((S 0 15) - 1) - x3) S)) else (A_run_j111 N  S)) else (A_run_j111 N  S)) else (A_run_j111 N  S)) := rfl
def A_run_j53 (N : Nat) (x1 x2 : Int) (S : s_M) : rO := A_run_l55 N N x1 x2 0 S
theorem A_run_j53_e (N : Nat) (x1 x2 : Int) (S : s_M) : A_run_j53 N x1 x2 S = (A_run_l55 N N x1 x2 0 S) := rfl
def A_run_j23 (N : Nat) (S : s_M) : rO := bnd (A_fail N 1 S) fun v40 S41 => some (v40, S41)
theorem A_run_j23_e (N : Nat) (S : s_M) : A_run_j23 N S = (bnd (A_fail N 1 S) fun v40 S41 => some (v40, S41)) := rfl
def A_run (N : Nat) (x1 x2 : Int) (S : s_M) : rO := if (decide (0 ≤ x1 ∧ x1 ≤ 5)) = true then (if (decide (0 ≤ x2 ∧ x2 ≤ 2)) = true then (if x2 = 0 then (bnd (A_once N x1 (m_s (m_s (m_s (m_s S 0 0 0) 0 30 0) 0 32 0) 0 31 (-1))) fun v63 S64 => A_run_j53 N x1 x2 S64) else (A_run_j53 N x1 x2 (m_s (m_s (m_s (m_s S 0 0 0) 0 30 0) 0 32 0) 0 31 (-1)))) else (A_run_j23 N  (m_s S 0 0 0))) else (A_run_j23 N  (m_s S 0 0 0))
theorem A_run_e (N : Nat) (x1 x2 : Int) (S : s_M) : A_run N x1 x2 S = (if (decide (0 ≤ x1 ∧ x1 ≤ 5)) = true then (if (decide (0 ≤ x2 ∧ x2 ≤ 2)) = true then (if x2 = 0 then (bnd (A_once N x1 (m_s (m_s (m_s (m_s S 0 0 0) 0 30 0) 0 32 0) 0 31 (-1))) fun v63 S64 => A_run_j53 N x1 x2 S64) else (A_run_j53 N x1 x2 (m_s (m_s (m_s (m_s S 0 0 0) 0 30 0) 0 32 0) 0 31 (-1)))) else (A_run_j23 N  (m_s S 0 0 0))) else (A_run_j23 N  (m_s S 0 0 0))) := rfl
set_option maxHeartbeats 4000000 in
set_option maxRecDepth 100000 in
theorem a_run (l : Launch) (D : va_G) {sh : s_S} {M0 M : s_M} {sz r x1 x2 : Int} {N : Nat} {S S0 : s_M} {v0 : Int} (h : mq sh M0 M r S) (hx1 : rI x1) (hx2 : rI x2) (hF : A_run N x1 x2 S = some (v0, S0)) : Sp l D y_Model_run prog_14_method_87_code 4 (some .int) 10 0 0 [vr r, vi x1, vi x2] sh M sz (fun v' sh' M' sz' => v' = some (vi v0) ∧ sh' = sh ∧ sz' = sz ∧ rI v0 ∧ mq sh M0 M' r S0) := by
  have hr0 := h.1.2.1
  refine Sp.ofGo (own := "CiteForgeModel") (nm := "run") (by decide) rfl rfl (Nat.le_of_ble_eq_true rfl) (lv := [(0, vr r), (1, vi x1), (2, vi x2)]) rfl ?_
  intro g X
  have hJ130 : ∀ (y0 : Int) (S1 M1 : s_M), rI y0 → mq sh M0 M1 r S1 → A_run_j130 N y0 S1 = some (v0, S0) → Go g 0 0 sh M1 sz 130 [(0, vr r)] [vi y0] := by
    intro y0 S1 M1 hy0 hm hF
    rw [A_run_j130_e] at hF
    exact go_iret X d_Model_run_130 rfl rfl (by decide) (by decide) (ret_i hF hy0 hm)
  have hJ111 : ∀ (S1 M1 : s_M), mq sh M0 M1 r S1 → A_run_j111 N S1 = some (v0, S0) → Go g 0 0 sh M1 sz 111 [(0, vr r)] [] := by
    intro S1 M1 hm hF
    rw [A_run_j111_e] at hF
    refine go_aload_n X d_Model_run_111 rfl rfl ?_
    refine go_get (v := vi (S1 0 32)) X f_Model_386 hm.1.1 rfl d_Model_run_112 (congrArg (s_v .boolean) ((hm.s 32).trans (rfl))) ?_
    refine go_if_eq (tgt := 126) X d_Model_run_115 rfl (rI_z (hm.gB 32 (by decide) (by decide))) (fun hq1 => ?_) (fun hq1 => ?_)
    · skip
      have hF2 := if_t hF hq1
      refine go_aload_n X d_Model_run_126 rfl rfl ?_
      refine go_get (v := vi (S1 0 30)) X f_Model_389 hm.1.1 rfl d_Model_run_127 (congrArg (s_v .int) ((hm.s 30).trans (rfl))) ?_
      refine go_lv (lv' := [(0, vr r)]) X [0] rfl ?_
      exact hJ130 (S1 0 30) S1 M1 (hm.gS 30 (by decide) (by decide)) hm hF2
    · skip
      have hF3 := if_f hF hq1
      refine go_aload_n X d_Model_run_118 rfl rfl ?_
      refine go_iconst (v := 2) X d_Model_run_119 ?_
      obtain ⟨v4, S5, hG6, hF7⟩ := bnd_t hF3
      refine go_cV (st2 := []) (r := []) X k_Model_128 (a_fail l D hm (by decide) hG6) hm.1.1 rfl rfl (by decide) (Nat.le_of_ble_eq_true rfl) d_Model_run_120 (by decide) (by decide) (fun v' sh' M8 sz' hpp => ?_)
      obtain ⟨e1, e2, e3, hv10, md9⟩ := hpp
      subst e1
      rw [e2, e3]
      clear e2 e3
      show Go g 0 0 sh M8 sz 123 [(0, vr r)] [vi v4]
      refine go_goto (tgt := 130) X d_Model_run_123 rfl ?_
      refine go_lv (lv' := [(0, vr r)]) X [0] rfl ?_
      exact hJ130 v4 S5 M8 hv10 md9 hF7
  have hL55 : ∀ (n55 : Nat) (x1 x2 x3 : Int) (S1 M1 : s_M), rI x1 → rI x2 → rI x3 → mq sh M0 M1 r S1 → A_run_l55 N n55 x1 x2 x3 S1 = some (v0, S0) → Go g 0 0 sh M1 sz 55 [(0, vr r), (1, vi x1), (2, vi x2), (3, vi x3)] [] := by
    intro n55
    induction n55 with
    | zero => intro x1 x2 x3 S1 M1 hx1 hx2 hx3 hm hF; cases hF
    | succ n55 ih55 =>
      have hJ96 : ∀ (x1 x2 x3 y0 : Int) (S1 M1 : s_M), rI x1 → rI x2 → rI x3 → rI y0 → mq sh M0 M1 r S1 → A_run_j96 N (A_run_l55 N n55) x1 x2 x3 y0 S1 = some (v0, S0) → Go g 0 0 sh M1 sz 96 [(0, vr r), (1, vi x1), (2, vi x2), (3, vi x3)] [vi y0, vr (r + 11), vr r] := by
        intro x1 x2 x3 y0 S1 M1 hx1 hx2 hx3 hy0 hm hF
        rw [A_run_j96_e] at hF
        obtain ⟨hc11, hF12⟩ := chk_t hF
        refine go_iald X (hm.1.2.2 10 _ rfl).1 (by decide) hc11 d_Model_run_96 ?_
        refine go_top (v' := vi (S1 11 y0)) X (congrArg (fun q => vi q) ((hm.a (by decide) y0).trans (rfl))) ?_
        refine go_put (x := (S1 11 y0)) (v := vi (S1 11 y0)) X f_Model_279 hm.1.1 rfl d_Model_run_97 rfl rfl rfl ?_
        have md13 : mq sh M0 (m_s M1 r 31 (S1 11 y0)) r (m_s S1 0 31 (S1 11 y0)) := hm.put0 (by decide) ((rg_S (by decide) (by decide) (hm.gA (by decide) y0)))
        generalize m_s M1 r 31 (S1 11 y0) = M14 at md13 ⊢
        refine go_aload_n X d_Model_run_100 rfl rfl ?_
        refine go_iload_n X d_Model_run_101 rfl rfl ?_
        obtain ⟨v15, S16, hG17, hF18⟩ := bnd_t hF12
        refine go_cV (st2 := []) (r := []) X k_Model_414 (a_once l D md13 hx1 hG17) md13.1.1 rfl rfl (by decide) (Nat.le_of_ble_eq_true rfl) d_Model_run_102 (by decide) (by decide) (fun v' sh' M19 sz' hpp => ?_)
        obtain ⟨e1, e2, e3, md20⟩ := hpp
        subst e1
        rw [e2, e3]
        clear e2 e3
        show Go g 0 0 sh M19 sz 105 [(0, vr r), (1, vi x1), (2, vi x2), (3, vi x3)] []
        obtain ⟨hc22, hF23⟩ := chk_t hF18
        refine go_iinc (v := 1) (x := x3) (lv' := [(3, vi (x3 + 1)), (0, vr r), (1, vi x1), (2, vi x2)]) X d_Model_run_105 rfl (by decide) rfl ?_
        refine go_goto (tgt := 55) X d_Model_run_108 rfl ?_
        refine go_lv (lv' := [(0, vr r), (1, vi x1), (2, vi x2), (3, vi (x3 + 1))]) X [1, 2, 3, 0] rfl ?_
        exact ih55 x1 x2 (x3 + 1) S16 M19 hx1 hx2 hc22 md20 hF23
      intro x1 x2 x3 S1 M1 hx1 hx2 hx3 hm hF
      rw [A_run_l55_e] at hF
      refine go_iload_n X d_Model_run_55 rfl rfl ?_
      refine go_if_le (tgt := 111) X d_Model_run_56 rfl hx2 (fun hq24 => ?_) (fun hq24 => ?_)
      · skip
        have hF25 := if_f hF (Int.not_lt.mpr hq24)
        refine go_lv (lv' := [(0, vr r)]) X [0] rfl ?_
        exact hJ111  S1 M1  hm hF25
      · skip
        have hF26 := if_t hF hq24
        refine go_iload_n X d_Model_run_59 rfl rfl ?_
        refine go_aload_n X d_Model_run_60 rfl rfl ?_
        refine go_get (v := vi (S1 0 15)) X f_Model_210 hm.1.1 rfl d_Model_run_61 (congrArg (s_v .int) ((hm.s 15).trans (rfl))) ?_
        refine go_icmp_ge (tgt := 111) X d_Model_run_64 rfl hx3 (hm.gS 15 (by decide) (by decide)) (fun hq27 => ?_) (fun hq27 => ?_)
        · skip
          have hF28 := if_f hF26 (Int.not_lt.mpr hq27)
          refine go_lv (lv' := [(0, vr r)]) X [0] rfl ?_
          exact hJ111  S1 M1  hm hF28
        · skip
          have hF29 := if_t hF26 hq27
          refine go_aload_n X d_Model_run_67 rfl rfl ?_
          refine go_get (v := vi (S1 0 32)) X f_Model_386 hm.1.1 rfl d_Model_run_68 (congrArg (s_v .boolean) ((hm.s 32).trans (rfl))) ?_
          refine go_if_ne (tgt := 111) X d_Model_run_71 rfl (rI_z (hm.gB 32 (by decide) (by decide))) (fun hq30 => ?_) (fun hq30 => ?_)
          · skip
            have hF31 := if_f hF29 hq30
            refine go_lv (lv' := [(0, vr r)]) X [0] rfl ?_
            exact hJ111  S1 M1  hm hF31
          · skip
            have hF32 := if_t hF29 hq30
            refine go_aload_n X d_Model_run_74 rfl rfl ?_
            refine go_aload_n X d_Model_run_75 rfl rfl ?_
            refine go_get (v := vr (r + 11)) X f_Model_41 hm.1.1 rfl d_Model_run_76 (s_varr (hm.1.2.2 10 _ rfl).2 (by omega)) ?_
            refine go_iload_n X d_Model_run_79 rfl rfl ?_
            refine go_iconst (v := 1) X d_Model_run_80 ?_
            refine go_icmp_ne (tgt := 88) X d_Model_run_81 rfl hx2 (by decide) (fun hq33 => ?_) (fun hq33 => ?_)
            · skip
              have hF34 := if_f hF32 hq33
              refine go_aload_n X d_Model_run_88 rfl rfl ?_
              refine go_get (v := vi (S1 0 15)) X f_Model_210 hm.1.1 rfl d_Model_run_89 (congrArg (s_v .int) ((hm.s 15).trans (rfl))) ?_
              refine go_iconst (v := 1) X d_Model_run_92 ?_
              refine go_isub X d_Model_run_93 ?_
              obtain ⟨hc35, hF36⟩ := chk_t hF34
              refine go_iload_n X d_Model_run_94 rfl rfl ?_
              refine go_isub X d_Model_run_95 ?_
              obtain ⟨hc37, hF38⟩ := chk_t hF36
              refine go_lv (lv' := [(0, vr r), (1, vi x1), (2, vi x2), (3, vi x3)]) X [0, 1, 2, 3] rfl ?_
              exact hJ96 x1 x2 x3 (((S1 0 15) - 1) - x3) S1 M1 hx1 hx2 hx3 hc37 hm hF38
            · skip
              have hF39 := if_t hF32 hq33
              refine go_iload_n X d_Model_run_84 rfl rfl ?_
              refine go_goto (tgt := 96) X d_Model_run_85 rfl ?_
              refine go_lv (lv' := [(0, vr r), (1, vi x1), (2, vi x2), (3, vi x3)]) X [0, 1, 2, 3] rfl ?_
              exact hJ96 x1 x2 x3 x3 S1 M1 hx1 hx2 hx3 hx3 hm hF39
  have hJ53 : ∀ (x1 x2 : Int) (S1 M1 : s_M), rI x1 → rI x2 → mq sh M0 M1 r S1 → A_run_j53 N x1 x2 S1 = some (v0, S0) → Go g 0 0 sh M1 sz 53 [(0, vr r), (1, vi x1), (2, vi x2)] [] := by
    intro x1 x2 S1 M1 hx1 hx2 hm hF
    rw [A_run_j53_e] at hF
    refine go_iconst (v := 0) X d_Model_run_53 ?_
    refine go_istore_n (lv' := [(3, vi 0), (0, vr r), (1, vi x1), (2, vi x2)]) X d_Model_run_54 rfl (by decide) rfl ?_
    refine go_lv (lv' := [(0, vr r), (1, vi x1), (2, vi x2), (3, vi 0)]) X [1, 2, 3, 0] rfl ?_
    exact hL55 N x1 x2 0 S1 M1 hx1 hx2 (by decide) hm hF
  have hJ23 : ∀ (S1 M1 : s_M), mq sh M0 M1 r S1 → A_run_j23 N S1 = some (v0, S0) → Go g 0 0 sh M1 sz 23 [(0, vr r)] [] := by
    intro S1 M1 hm hF
    rw [A_run_j23_e] at hF
    refine go_aload_n X d_Model_run_23 rfl rfl ?_
    refine go_iconst (v := 1) X d_Model_run_24 ?_
    obtain ⟨v40, S41, hG42, hF43⟩ := bnd_t hF
    refine go_cV (st2 := []) (r := []) X k_Model_128 (a_fail l D hm (by decide) hG42) hm.1.1 rfl rfl (by decide) (Nat.le_of_ble_eq_true rfl) d_Model_run_25 (by decide) (by decide) (fun v' sh' M44 sz' hpp => ?_)
    obtain ⟨e1, e2, e3, hv46, md45⟩ := hpp
    subst e1
    rw [e2, e3]
    clear e2 e3
    show Go g 0 0 sh M44 sz 28 [(0, vr r)] [vi v40]
    exact go_iret X d_Model_run_28 rfl rfl (by decide) (by decide) (ret_i hF43 hv46 md45)
  rw [A_run_e] at hF
  refine go_aload_n X d_Model_run_0 rfl rfl ?_
  refine go_iconst (v := 0) X d_Model_run_1 ?_
  refine go_put (x := 0) (v := vi 0) X f_Model_95 h.1.1 rfl d_Model_run_2 rfl rfl rfl ?_
  have md47 : mq sh M0 (m_s M r 0 0) r (m_s S 0 0 0) := h.put0 (by decide) ((rg_S (by decide) (by decide) (by decide)))
  generalize m_s M r 0 0 = M48 at md47 ⊢
  refine go_iload_n X d_Model_run_5 rfl rfl ?_
  refine go_iconst (v := 0) X d_Model_run_6 ?_
  refine go_iconst (v := 5) X d_Model_run_7 ?_
  refine go_cSf (st2 := [vi (s_b (decide (0 ≤ x1 ∧ x1 ≤ 5)))]) (r := []) X k_Model_103 (m_within l D hx1 (by decide) (by decide)) rfl rfl (by decide) (Nat.le_of_ble_eq_true rfl) d_Model_run_8 (by decide) (by decide) rfl ?_
  refine go_ifb_eq (tgt := 23) X d_Model_run_11 rfl (fun hq49 => ?_) (fun hq49 => ?_)
  · skip
    have hF50 := if_f hF (bnf hq49)
    refine go_lv (lv' := [(0, vr r)]) X [0] rfl ?_
    exact hJ23  (m_s S 0 0 0) M48  md47 hF50
  · skip
    have hF51 := if_t hF hq49
    refine go_iload_n X d_Model_run_14 rfl rfl ?_
    refine go_iconst (v := 0) X d_Model_run_15 ?_
    refine go_iconst (v := 2) X d_Model_run_16 ?_
    refine go_cSf (st2 := [vi (s_b (decide (0 ≤ x2 ∧ x2 ≤ 2)))]) (r := []) X k_Model_103 (m_within l D hx2 (by decide) (by decide)) rfl rfl (by decide) (Nat.le_of_ble_eq_true rfl) d_Model_run_17 (by decide) (by decide) rfl ?_
    refine go_ifb_ne (tgt := 29) X d_Model_run_20 rfl (fun hq52 => ?_) (fun hq52 => ?_)
    · skip
      have hF53 := if_t hF51 hq52
      refine go_aload_n X d_Model_run_29 rfl rfl ?_
      refine go_iconst (v := 0) X d_Model_run_30 ?_
      refine go_put (x := 0) (v := vi 0) X f_Model_389 md47.1.1 rfl d_Model_run_31 rfl rfl rfl ?_
      have md54 : mq sh M0 (m_s M48 r 30 0) r (m_s (m_s S 0 0 0) 0 30 0) := md47.put0 (by decide) ((rg_S (by decide) (by decide) (by decide)))
      generalize m_s M48 r 30 0 = M55 at md54 ⊢
      refine go_aload_n X d_Model_run_34 rfl rfl ?_
      refine go_iconst (v := 0) X d_Model_run_35 ?_
      refine go_put (x := 0) (v := vi 0) X f_Model_386 md54.1.1 rfl d_Model_run_36 rfl (n_nz (by decide)) (n_fz (by decide)) ?_
      have md56 : mq sh M0 (m_s M55 r 32 0) r (m_s (m_s (m_s S 0 0 0) 0 30 0) 0 32 0) := md54.put0 (by decide) ((rg_B (by decide) (by decide) (by decide)))
      generalize m_s M55 r 32 0 = M57 at md56 ⊢
      refine go_aload_n X d_Model_run_39 rfl rfl ?_
      refine go_iconst (v := (-1)) X d_Model_run_40 ?_
      refine go_put (x := (-1)) (v := vi (-1)) X f_Model_279 md56.1.1 rfl d_Model_run_41 rfl rfl rfl ?_
      have md58 : mq sh M0 (m_s M57 r 31 (-1)) r (m_s (m_s (m_s (m_s S 0 0 0) 0 30 0) 0 32 0) 0 31 (-1)) := md56.put0 (by decide) ((rg_S (by decide) (by decide) (by decide)))
      generalize m_s M57 r 31 (-1) = M59 at md58 ⊢
      refine go_iload_n X d_Model_run_44 rfl rfl ?_
      refine go_if_ne (tgt := 53) X d_Model_run_45 rfl hx2 (fun hq60 => ?_) (fun hq60 => ?_)
      · skip
        have hF61 := if_f hF53 hq60
        refine go_lv (lv' := [(0, vr r), (1, vi x1), (2, vi x2)]) X [0, 1, 2] rfl ?_
        exact hJ53 x1 x2 (m_s (m_s (m_s (m_s S 0 0 0) 0 30 0) 0 32 0) 0 31 (-1)) M59 hx1 hx2 md58 hF61
      · skip
        have hF62 := if_t hF53 hq60
        refine go_aload_n X d_Model_run_48 rfl rfl ?_
        refine go_iload_n X d_Model_run_49 rfl rfl ?_
        obtain ⟨v63, S64, hG65, hF66⟩ := bnd_t hF62
        refine go_cV (st2 := []) (r := []) X k_Model_414 (a_once l D md58 hx1 hG65) md58.1.1 rfl rfl (by decide) (Nat.le_of_ble_eq_true rfl) d_Model_run_50 (by decide) (by decide) (fun v' sh' M67 sz' hpp => ?_)
        obtain ⟨e1, e2, e3, md68⟩ := hpp
        subst e1
        rw [e2, e3]
        clear e2 e3
        show Go g 0 0 sh M67 sz 53 [(0, vr r), (1, vi x1), (2, vi x2)] []
        refine go_lv (lv' := [(0, vr r), (1, vi x1), (2, vi x2)]) X [0, 1, 2] rfl ?_
        exact hJ53 x1 x2 S64 M67 hx1 hx2 md68 hF66
    · skip
      have hF70 := if_f hF51 (bnf hq52)
      refine go_lv (lv' := [(0, vr r)]) X [0] rfl ?_
      exact hJ23  (m_s S 0 0 0) M48  md47 hF70
def A_depth (N : Nat) (S : s_M) : rO := some (S 0 26, m_s S 0 0 0)
theorem A_depth_e (N : Nat) (S : s_M) : A_depth N S = (some (S 0 26, m_s S 0 0 0)) := rfl
set_option maxHeartbeats 4000000 in
set_option maxRecDepth 100000 in
theorem a_depth (l : Launch) (D : va_G) {sh : s_S} {M0 M : s_M} {sz r  : Int} {N : Nat} {S S0 : s_M} {v0 : Int} (h : mq sh M0 M r S) (hF : A_depth N S = some (v0, S0)) : Sp l D y_Model_depth prog_14_method_88_code 1 (some .int) 1 0 0 [vr r] sh M sz (fun v' sh' M' sz' => v' = some (vi v0) ∧ sh' = sh ∧ sz' = sz ∧ rI v0 ∧ mq sh M0 M' r S0) := by
  have hr0 := h.1.2.1
  refine Sp.ofGo (own := "CiteForgeModel") (nm := "depth") (by decide) rfl rfl (Nat.le_of_ble_eq_true rfl) (lv := [(0, vr r)]) rfl ?_
  intro g X
  rw [A_depth_e] at hF
  refine go_aload_n X d_Model_depth_0 rfl rfl ?_
  refine go_iconst (v := 0) X d_Model_depth_1 ?_
  refine go_put (x := 0) (v := vi 0) X f_Model_95 h.1.1 rfl d_Model_depth_2 rfl rfl rfl ?_
  have md1 : mq sh M0 (m_s M r 0 0) r (m_s S 0 0 0) := h.put0 (by decide) ((rg_S (by decide) (by decide) (by decide)))
  generalize m_s M r 0 0 = M2 at md1 ⊢
  refine go_aload_n X d_Model_depth_5 rfl rfl ?_
  refine go_get (v := vi (S 0 26)) X f_Model_250 md1.1.1 rfl d_Model_depth_6 (congrArg (s_v .int) ((md1.s 26).trans ((m_sj (by decide)).trans (rfl)))) ?_
  exact go_iret X d_Model_depth_9 rfl rfl (by decide) (by decide) (ret_i hF (rI_eq (md1.gS 26 (by decide) (by decide)) ((m_sj (by decide)).trans (rfl))) md1)
def A_none (N : Nat) (x1 : Int) (S : s_M) : rO := chk (rI ((S 0 26) - 1)) <| some (if (decide (0 ≤ x1 ∧ x1 ≤ ((S 0 26) - 1))) = true then (0 : Int) else 1, S)
theorem A_none_e (N : Nat) (x1 : Int) (S : s_M) : A_none N x1 S = (chk (rI ((S 0 26) - 1)) <| some (if (decide (0 ≤ x1 ∧ x1 ≤ ((S 0 26) - 1))) = true then (0 : Int) else 1, S)) := rfl
set_option maxHeartbeats 4000000 in
set_option maxRecDepth 100000 in
theorem a_none (l : Launch) (D : va_G) {sh : s_S} {M0 M : s_M} {sz r x1 : Int} {N : Nat} {S S0 : s_M} {v0 : Int} (h : mq sh M0 M r S) (hx1 : rI x1) (hF : A_none N x1 S = some (v0, S0)) : Sp l D y_Model_none prog_14_method_89_code 2 (some .boolean) 2 0 0 [vr r, vi x1] sh M sz (fun v' sh' M' sz' => v' = some (vi v0) ∧ sh' = sh ∧ sz' = sz ∧ rI v0 ∧ mq sh M0 M' r S0) := by
  have hr0 := h.1.2.1
  refine Sp.ofGo (own := "CiteForgeModel") (nm := "none") (by decide) rfl rfl (Nat.le_of_ble_eq_true rfl) (lv := [(0, vr r), (1, vi x1)]) rfl ?_
  intro g X
  rw [A_none_e] at hF
  refine go_iload_n X d_Model_none_0 rfl rfl ?_
  refine go_iconst (v := 0) X d_Model_none_1 ?_
  refine go_aload_n X d_Model_none_2 rfl rfl ?_
  refine go_get (v := vi (S 0 26)) X f_Model_250 h.1.1 rfl d_Model_none_3 (congrArg (s_v .int) ((h.s 26).trans (rfl))) ?_
  refine go_iconst (v := 1) X d_Model_none_6 ?_
  refine go_isub X d_Model_none_7 ?_
  obtain ⟨hc1, hF2⟩ := chk_t hF
  refine go_cSf (st2 := [vi (s_b (decide (0 ≤ x1 ∧ x1 ≤ ((S 0 26) - 1))))]) (r := []) X k_Model_103 (m_within l D hx1 (by decide) hc1) rfl rfl (by decide) (Nat.le_of_ble_eq_true rfl) d_Model_none_8 (by decide) (by decide) rfl ?_
  suffices hv3 : Go g 0 0 sh M sz 19 [(0, vr r), (1, vi x1)] [vi (if (decide (0 ≤ x1 ∧ x1 ≤ ((S 0 26) - 1))) = true then (0 : Int) else 1)] by
    refine go_ifb_ne (tgt := 18) X d_Model_none_11 rfl (fun hq4 => ?_) (fun hq4 => ?_)
    · skip
      refine go_iconst (v := 0) X d_Model_none_18 ?_
      refine go_top (v' := vi (if (decide (0 ≤ x1 ∧ x1 ≤ ((S 0 26) - 1))) = true then (0 : Int) else 1)) X (congrArg (fun q => vi q) (show 0 = if (decide (0 ≤ x1 ∧ x1 ≤ ((S 0 26) - 1))) = true then (0 : Int) else 1 from ((if_pos hq4)).symm)) ?_
      exact hv3
    · skip
      refine go_iconst (v := 1) X d_Model_none_14 ?_
      refine go_goto (tgt := 19) X d_Model_none_15 rfl ?_
      refine go_top (v' := vi (if (decide (0 ≤ x1 ∧ x1 ≤ ((S 0 26) - 1))) = true then (0 : Int) else 1)) X (congrArg (fun q => vi q) (show 1 = if (decide (0 ≤ x1 ∧ x1 ≤ ((S 0 26) - 1))) = true then (0 : Int) else 1 from ((if_neg (bnf hq4))).symm)) ?_
      exact hv3
  exact go_iret X d_Model_none_19 rfl (n_nz (z_ite (by decide) (by decide))) (by decide) (by decide) (ret_i hF2 (rI_ite (by decide) (by decide)) h)
def A_kind_j34 (N : Nat) (y0 : Int) (S : s_M) : rO := some (y0, S)
theorem A_kind_j34_e (N : Nat) (y0 : Int) (S : s_M) : A_kind_j34 N y0 S = (some (y0, S)) := rfl
def A_kind (N : Nat) (x1 : Int) (S : s_M) : rO := bnd (A_none N x1 (m_s S 0 0 0)) fun v3 S4 => if v3 = 0 then (chk (rI ((S4 0 26) - 1)) <| chk (rI (((S4 0 26) - 1) - x1)) <| chk (0 ≤ (((S4 0 26) - 1) - x1) ∧ (((S4 0 26) - 1) - x1) < 12) <| A_kind_j34 N (S4 16 (((S4 0 26) - 1) - x1)) S4) else (bnd (A_fail N 1 S4) fun v19 S20 => A_kind_j34 N v19 S20)
theorem A_kind_e (N : Nat) (x1 : Int) (S : s_M) : A_kind N x1 S = (bnd (A_none N x1 (m_s S 0 0 0)) fun v3 S4 => if v3 = 0 then (chk (rI ((S4 0 26) - 1)) <| chk (rI (((S4 0 26) - 1) - x1)) <| chk (0 ≤ (((S4 0 26) - 1) - x1) ∧ (((S4 0 26) - 1) - x1) < 12) <| A_kind_j34 N (S4 16 (((S4 0 26) - 1) - x1)) S4) else (bnd (A_fail N 1 S4) fun v19 S20 => A_kind_j34 N v19 S20)) := rfl
set_option maxHeartbeats 4000000 in
set_option maxRecDepth 100000 in
theorem a_kind (l : Launch) (D : va_G) {sh : s_S} {M0 M : s_M} {sz r x1 : Int} {N : Nat} {S S0 : s_M} {v0 : Int} (h : mq sh M0 M r S) (hx1 : rI x1) (hF : A_kind N x1 S = some (v0, S0)) : Sp l D y_Model_kind prog_14_method_90_code 2 (some .int) 3 0 0 [vr r, vi x1] sh M sz (fun v' sh' M' sz' => v' = some (vi v0) ∧ sh' = sh ∧ sz' = sz ∧ rI v0 ∧ mq sh M0 M' r S0) := by
  have hr0 := h.1.2.1
  refine Sp.ofGo (own := "CiteForgeModel") (nm := "kind") (by decide) rfl rfl (Nat.le_of_ble_eq_true rfl) (lv := [(0, vr r), (1, vi x1)]) rfl ?_
  intro g X
  have hJ34 : ∀ (y0 : Int) (S1 M1 : s_M), rI y0 → mq sh M0 M1 r S1 → A_kind_j34 N y0 S1 = some (v0, S0) → Go g 0 0 sh M1 sz 34 [(0, vr r)] [vi y0] := by
    intro y0 S1 M1 hy0 hm hF
    rw [A_kind_j34_e] at hF
    exact go_iret X d_Model_kind_34 rfl rfl (by decide) (by decide) (ret_i hF hy0 hm)
  rw [A_kind_e] at hF
  refine go_aload_n X d_Model_kind_0 rfl rfl ?_
  refine go_iconst (v := 0) X d_Model_kind_1 ?_
  refine go_put (x := 0) (v := vi 0) X f_Model_95 h.1.1 rfl d_Model_kind_2 rfl rfl rfl ?_
  have md1 : mq sh M0 (m_s M r 0 0) r (m_s S 0 0 0) := h.put0 (by decide) ((rg_S (by decide) (by decide) (by decide)))
  generalize m_s M r 0 0 = M2 at md1 ⊢
  refine go_aload_n X d_Model_kind_5 rfl rfl ?_
  refine go_iload_n X d_Model_kind_6 rfl rfl ?_
  obtain ⟨v3, S4, hG5, hF6⟩ := bnd_t hF
  refine go_cV (st2 := []) (r := []) X k_Model_417 (a_none l D md1 hx1 hG5) md1.1.1 rfl rfl (by decide) (Nat.le_of_ble_eq_true rfl) d_Model_kind_7 (by decide) (by decide) (fun v' sh' M7 sz' hpp => ?_)
  obtain ⟨e1, e2, e3, hv9, md8⟩ := hpp
  subst e1
  rw [e2, e3]
  clear e2 e3
  show Go g 0 0 sh M7 sz 10 [(0, vr r), (1, vi x1)] [vi v3]
  refine go_if_eq (tgt := 21) X d_Model_kind_10 rfl hv9 (fun hq10 => ?_) (fun hq10 => ?_)
  · skip
    have hF11 := if_t hF6 hq10
    refine go_aload_n X d_Model_kind_21 rfl rfl ?_
    refine go_get (v := vr (r + 16)) X f_Model_56 md8.1.1 rfl d_Model_kind_22 (s_varr (md8.1.2.2 15 _ rfl).2 (by omega)) ?_
    refine go_aload_n X d_Model_kind_25 rfl rfl ?_
    refine go_get (v := vi (S4 0 26)) X f_Model_250 md8.1.1 rfl d_Model_kind_26 (congrArg (s_v .int) ((md8.s 26).trans (rfl))) ?_
    refine go_iconst (v := 1) X d_Model_kind_29 ?_
    refine go_isub X d_Model_kind_30 ?_
    obtain ⟨hc12, hF13⟩ := chk_t hF11
    refine go_iload_n X d_Model_kind_31 rfl rfl ?_
    refine go_isub X d_Model_kind_32 ?_
    obtain ⟨hc14, hF15⟩ := chk_t hF13
    obtain ⟨hc16, hF17⟩ := chk_t hF15
    refine go_iald X (md8.1.2.2 15 _ rfl).1 (by decide) hc16 d_Model_kind_33 ?_
    refine go_top (v' := vi (S4 16 (((S4 0 26) - 1) - x1))) X (congrArg (fun q => vi q) ((md8.a (by decide) (((S4 0 26) - 1) - x1)).trans (rfl))) ?_
    refine go_lv (lv' := [(0, vr r)]) X [0] rfl ?_
    exact hJ34 (S4 16 (((S4 0 26) - 1) - x1)) S4 M7 (md8.gA (by decide) (((S4 0 26) - 1) - x1)) md8 hF17
  · skip
    have hF18 := if_f hF6 hq10
    refine go_aload_n X d_Model_kind_13 rfl rfl ?_
    refine go_iconst (v := 1) X d_Model_kind_14 ?_
    obtain ⟨v19, S20, hG21, hF22⟩ := bnd_t hF18
    refine go_cV (st2 := []) (r := []) X k_Model_128 (a_fail l D md8 (by decide) hG21) md8.1.1 rfl rfl (by decide) (Nat.le_of_ble_eq_true rfl) d_Model_kind_15 (by decide) (by decide) (fun v' sh' M23 sz' hpp => ?_)
    obtain ⟨e1, e2, e3, hv25, md24⟩ := hpp
    subst e1
    rw [e2, e3]
    clear e2 e3
    show Go g 0 0 sh M23 sz 18 [(0, vr r), (1, vi x1)] [vi v19]
    refine go_goto (tgt := 34) X d_Model_kind_18 rfl ?_
    refine go_lv (lv' := [(0, vr r)]) X [0] rfl ?_
    exact hJ34 v19 S20 M23 hv25 md24 hF22
def A_value_j69 (N : Nat) (y0 : Int) (S : s_M) : rO := some (y0, S)
theorem A_value_j69_e (N : Nat) (y0 : Int) (S : s_M) : A_value_j69 N y0 S = (some (y0, S)) := rfl
def A_value (N : Nat) (x1 : Int) (S : s_M) : rO := bnd (A_none N x1 (m_s S 0 0 0)) fun v3 S4 => if v3 = 0 then (chk (rI ((S4 0 26) - 1)) <| chk (rI (((S4 0 26) - 1) - x1)) <| chk (0 ≤ (((S4 0 26) - 1) - x1) ∧ (((S4 0 26) - 1) - x1) < 12) <| if (S4 16 (((S4 0 26) - 1) - x1)) = 0 then (chk (0 ≤ (((S4 0 26) - 1) - x1) ∧ (((S4 0 26) - 1) - x1) < 12) <| A_value_j69 N (S4 17 (((S4 0 26) - 1) - x1)) S4) else (chk (0 ≤ (((S4 0 26) - 1) - x1) ∧ (((S4 0 26) - 1) - x1) < 12) <| if (S4 16 (((S4 0 26) - 1) - x1)) = 1 then (chk (rI (70 + (((S4 0 26) - 1) - x1))) <| chk (0 ≤ (70 + (((S4 0 26) - 1) - x1)) ∧ (70 + (((S4 0 26) - 1) - x1)) < 85) <| A_value_j69 N (S4 3 (70 + (((S4 0 26) - 1) - x1))) S4) else (A_value_j69 N 0 S4))) else (bnd (A_fail N 1 S4) fun v33 S34 => some (v33, S34))
theorem A_value_e (N : Nat) (x1 : Int) (S : s_M) : A_value N x1 S = (bnd (A_none N x1 (m_s S 0 0 0)) fun v3 S4 => if v3 = 0 then (chk (rI ((S4 0 26) - 1)) <| chk (rI (((S4 0 26) - 1) - x1)) <| chk (0 ≤ (((S4 0 26) - 1) - x1) ∧ (((S4 0 26) - 1) - x1) < 12) <| if (S4 16 (((S4 0 26) - 1) - x1)) = 0 then (chk (0 ≤ (((S4 0 26) - 1) - x1) ∧ (((S4 0 26) - 1) - x1) < 12) <| A_value_j69 N (S4 17 (((S4 0 26) - 1) - x1)) S4) else (chk (0 ≤ (((S4 0 26) - 1) - x1) ∧ (((S4 0 26) - 1) - x1) < 12) <| if (S4 16 (((S4 0 26) - 1) - x1)) = 1 then (chk (rI (70 + (((S4 0 26) - 1) - x1))) <| chk (0 ≤ (70 + (((S4 0 26) - 1) - x1)) ∧ (70 + (((S4 0 26) - 1) - x1)) < 85) <| A_value_j69 N (S4 3 (70 + (((S4 0 26) - 1) - x1))) S4) else (A_value_j69 N 0 S4))) else (bnd (A_fail N 1 S4) fun v33 S34 => some (v33, S34))) := rfl
set_option maxHeartbeats 4000000 in
set_option maxRecDepth 100000 in
theorem a_value (l : Launch) (D : va_G) {sh : s_S} {M0 M : s_M} {sz r x1 : Int} {N : Nat} {S S0 : s_M} {v0 : Int} (h : mq sh M0 M r S) (hx1 : rI x1) (hF : A_value N x1 S = some (v0, S0)) : Sp l D y_Model_value prog_14_method_91_code 3 (some .int) 3 0 0 [vr r, vi x1] sh M sz (fun v' sh' M' sz' => v' = some (vi v0) ∧ sh' = sh ∧ sz' = sz ∧ rI v0 ∧ mq sh M0 M' r S0) := by
  have hr0 := h.1.2.1
  refine Sp.ofGo (own := "CiteForgeModel") (nm := "value") (by decide) rfl rfl (Nat.le_of_ble_eq_true rfl) (lv := [(0, vr r), (1, vi x1)]) rfl ?_
  intro g X
  have hJ69 : ∀ (y0 : Int) (S1 M1 : s_M), rI y0 → mq sh M0 M1 r S1 → A_value_j69 N y0 S1 = some (v0, S0) → Go g 0 0 sh M1 sz 69 [(0, vr r)] [vi y0] := by
    intro y0 S1 M1 hy0 hm hF
    rw [A_value_j69_e] at hF
    exact go_iret X d_Model_value_69 rfl rfl (by decide) (by decide) (ret_i hF hy0 hm)
  rw [A_value_e] at hF
  refine go_aload_n X d_Model_value_0 rfl rfl ?_
  refine go_iconst (v := 0) X d_Model_value_1 ?_
  refine go_put (x := 0) (v := vi 0) X f_Model_95 h.1.1 rfl d_Model_value_2 rfl rfl rfl ?_
  have md1 : mq sh M0 (m_s M r 0 0) r (m_s S 0 0 0) := h.put0 (by decide) ((rg_S (by decide) (by decide) (by decide)))
  generalize m_s M r 0 0 = M2 at md1 ⊢
  refine go_aload_n X d_Model_value_5 rfl rfl ?_
  refine go_iload_n X d_Model_value_6 rfl rfl ?_
  obtain ⟨v3, S4, hG5, hF6⟩ := bnd_t hF
  refine go_cV (st2 := []) (r := []) X k_Model_417 (a_none l D md1 hx1 hG5) md1.1.1 rfl rfl (by decide) (Nat.le_of_ble_eq_true rfl) d_Model_value_7 (by decide) (by decide) (fun v' sh' M7 sz' hpp => ?_)
  obtain ⟨e1, e2, e3, hv9, md8⟩ := hpp
  subst e1
  rw [e2, e3]
  clear e2 e3
  show Go g 0 0 sh M7 sz 10 [(0, vr r), (1, vi x1)] [vi v3]
  refine go_if_eq (tgt := 19) X d_Model_value_10 rfl hv9 (fun hq10 => ?_) (fun hq10 => ?_)
  · skip
    have hF11 := if_t hF6 hq10
    refine go_aload_n X d_Model_value_19 rfl rfl ?_
    refine go_get (v := vi (S4 0 26)) X f_Model_250 md8.1.1 rfl d_Model_value_20 (congrArg (s_v .int) ((md8.s 26).trans (rfl))) ?_
    refine go_iconst (v := 1) X d_Model_value_23 ?_
    refine go_isub X d_Model_value_24 ?_
    obtain ⟨hc12, hF13⟩ := chk_t hF11
    refine go_iload_n X d_Model_value_25 rfl rfl ?_
    refine go_isub X d_Model_value_26 ?_
    obtain ⟨hc14, hF15⟩ := chk_t hF13
    refine go_istore_n (lv' := [(2, vi (((S4 0 26) - 1) - x1)), (0, vr r), (1, vi x1)]) X d_Model_value_27 rfl (by decide) rfl ?_
    refine go_aload_n X d_Model_value_28 rfl rfl ?_
    refine go_get (v := vr (r + 16)) X f_Model_56 md8.1.1 rfl d_Model_value_29 (s_varr (md8.1.2.2 15 _ rfl).2 (by omega)) ?_
    refine go_iload_n X d_Model_value_32 rfl rfl ?_
    obtain ⟨hc16, hF17⟩ := chk_t hF15
    refine go_iald X (md8.1.2.2 15 _ rfl).1 (by decide) hc16 d_Model_value_33 ?_
    refine go_top (v' := vi (S4 16 (((S4 0 26) - 1) - x1))) X (congrArg (fun q => vi q) ((md8.a (by decide) (((S4 0 26) - 1) - x1)).trans (rfl))) ?_
    refine go_if_ne (tgt := 46) X d_Model_value_34 rfl (md8.gA (by decide) (((S4 0 26) - 1) - x1)) (fun hq18 => ?_) (fun hq18 => ?_)
    · skip
      have hF19 := if_f hF17 hq18
      refine go_aload_n X d_Model_value_46 rfl rfl ?_
      refine go_get (v := vr (r + 16)) X f_Model_56 md8.1.1 rfl d_Model_value_47 (s_varr (md8.1.2.2 15 _ rfl).2 (by omega)) ?_
      refine go_iload_n X d_Model_value_50 rfl rfl ?_
      obtain ⟨hc20, hF21⟩ := chk_t hF19
      refine go_iald X (md8.1.2.2 15 _ rfl).1 (by decide) hc20 d_Model_value_51 ?_
      refine go_top (v' := vi (S4 16 (((S4 0 26) - 1) - x1))) X (congrArg (fun q => vi q) ((md8.a (by decide) (((S4 0 26) - 1) - x1)).trans (rfl))) ?_
      refine go_iconst (v := 1) X d_Model_value_52 ?_
      refine go_icmp_ne (tgt := 68) X d_Model_value_53 rfl (md8.gA (by decide) (((S4 0 26) - 1) - x1)) (by decide) (fun hq22 => ?_) (fun hq22 => ?_)
      · skip
        have hF23 := if_f hF21 hq22
        refine go_iconst (v := 0) X d_Model_value_68 ?_
        refine go_lv (lv' := [(0, vr r)]) X [1] rfl ?_
        exact hJ69 0 S4 M7 (by decide) md8 hF23
      · skip
        have hF24 := if_t hF21 hq22
        refine go_aload_n X d_Model_value_56 rfl rfl ?_
        refine go_get (v := vr (r + 3)) X f_Model_16 md8.1.1 rfl d_Model_value_57 (s_varr (md8.1.2.2 2 _ rfl).2 (by omega)) ?_
        refine go_bipush (v := 70) X d_Model_value_60 (by decide) ?_
        refine go_iload_n X d_Model_value_62 rfl rfl ?_
        refine go_iadd X d_Model_value_63 ?_
        obtain ⟨hc25, hF26⟩ := chk_t hF24
        obtain ⟨hc27, hF28⟩ := chk_t hF26
        refine go_iald X (md8.1.2.2 2 _ rfl).1 (by decide) hc27 d_Model_value_64 ?_
        refine go_top (v' := vi (S4 3 (70 + (((S4 0 26) - 1) - x1)))) X (congrArg (fun q => vi q) ((md8.a (by decide) (70 + (((S4 0 26) - 1) - x1))).trans (rfl))) ?_
        refine go_goto (tgt := 69) X d_Model_value_65 rfl ?_
        refine go_lv (lv' := [(0, vr r)]) X [1] rfl ?_
        exact hJ69 (S4 3 (70 + (((S4 0 26) - 1) - x1))) S4 M7 (md8.gA (by decide) (70 + (((S4 0 26) - 1) - x1))) md8 hF28
    · skip
      have hF29 := if_t hF17 hq18
      refine go_aload_n X d_Model_value_37 rfl rfl ?_
      refine go_get (v := vr (r + 17)) X f_Model_59 md8.1.1 rfl d_Model_value_38 (s_varr (md8.1.2.2 16 _ rfl).2 (by omega)) ?_
      refine go_iload_n X d_Model_value_41 rfl rfl ?_
      obtain ⟨hc30, hF31⟩ := chk_t hF29
      refine go_iald X (md8.1.2.2 16 _ rfl).1 (by decide) hc30 d_Model_value_42 ?_
      refine go_top (v' := vi (S4 17 (((S4 0 26) - 1) - x1))) X (congrArg (fun q => vi q) ((md8.a (by decide) (((S4 0 26) - 1) - x1)).trans (rfl))) ?_
      refine go_goto (tgt := 69) X d_Model_value_43 rfl ?_
      refine go_lv (lv' := [(0, vr r)]) X [1] rfl ?_
      exact hJ69 (S4 17 (((S4 0 26) - 1) - x1)) S4 M7 (md8.gA (by decide) (((S4 0 26) - 1) - x1)) md8 hF31
  · skip
    have hF32 := if_f hF6 hq10
    refine go_aload_n X d_Model_value_13 rfl rfl ?_
    refine go_iconst (v := 1) X d_Model_value_14 ?_
    obtain ⟨v33, S34, hG35, hF36⟩ := bnd_t hF32
    refine go_cV (st2 := []) (r := []) X k_Model_128 (a_fail l D md8 (by decide) hG35) md8.1.1 rfl rfl (by decide) (Nat.le_of_ble_eq_true rfl) d_Model_value_15 (by decide) (by decide) (fun v' sh' M37 sz' hpp => ?_)
    obtain ⟨e1, e2, e3, hv39, md38⟩ := hpp
    subst e1
    rw [e2, e3]
    clear e2 e3
    show Go g 0 0 sh M37 sz 18 [(0, vr r), (1, vi x1)] [vi v33]
    exact go_iret X d_Model_value_18 rfl rfl (by decide) (by decide) (ret_i hF36 hv39 md38)
def A_letter_j78 (N : Nat) (y0 : Int) (S : s_M) : rO := some (y0, S)
theorem A_letter_j78_e (N : Nat) (y0 : Int) (S : s_M) : A_letter_j78 N y0 S = (some (y0, S)) := rfl
def A_letter_j30 (N : Nat) (S : s_M) : rO := bnd (A_fail N 1 S) fun v1 S2 => some (v1, S2)
theorem A_letter_j30_e (N : Nat) (S : s_M) : A_letter_j30 N S = (bnd (A_fail N 1 S) fun v1 S2 => some (v1, S2)) := rfl
def A_letter (N : Nat) (x1 x2 : Int) (S : s_M) : rO := bnd (A_none N x1 (m_s S 0 0 0)) fun v10 S11 => if v10 = 0 then (chk (rI ((S11 0 26) - 1)) <| chk (rI (((S11 0 26) - 1) - x1)) <| chk (0 ≤ (((S11 0 26) - 1) - x1) ∧ (((S11 0 26) - 1) - x1) < 12) <| if (S11 16 (((S11 0 26) - 1) - x1)) = 1 then (chk (rI (70 + (S11 0 26))) <| chk (rI ((70 + (S11 0 26)) - 1)) <| chk (rI (((70 + (S11 0 26)) - 1) - x1)) <| chk (0 ≤ (((70 + (S11 0 26)) - 1) - x1) ∧ (((70 + (S11 0 26)) - 1) - x1) < 85) <| chk (rI ((S11 3 (((70 + (S11 0 26)) - 1) - x1)) - 1)) <| if (decide (0 ≤ x2 ∧ x2 ≤ ((S11 3 (((70 + (S11 0 26)) - 1) - x1)) - 1))) = true then (bnd (A_at N (((70 + (S11 0 26)) - 1) - x1) x2 S11) fun v48 S49 => A_letter_j78 N v48 S49) else (bnd (A_fail N 1 S11) fun v40 S41 => A_letter_j78 N v40 S41)) else (A_letter_j30 N  S11)) else (A_letter_j30 N  S11)
theorem A_letter_e (N : Nat) (x1 x2 : Int) (S : s_M) : A_letter N x1 x2 S = (bnd (A_none N x1 (m_s S 0 0 0)) fun v10 S11 => if v10 = 0 then (chk (rI ((S11 0 26) - 1)) <| chk (rI (((S11 0 26) - 1) - x1)) <| chk (0 ≤ (((S11 0 26) - 1) - x1) ∧ (((S11 0 26) - 1) - x1) < 12) <| if (S11 16 (((S11 0 26) - 1) - x1)) = 1 then (chk (rI (70 + (S11 0 26))) <| chk (rI ((70 + (S11 0 26)) - 1)) <| chk (rI (((70 + (S11 0 26)) - 1) - x1)) <| chk (0 ≤ (((70 + (S11 0 26)) - 1) - x1) ∧ (((70 + (S11 0 26)) - 1) - x1) < 85) <| chk (rI ((S11 3 (((70 + (S11 0 26)) - 1) - x1)) - 1)) <| if (decide (0 ≤ x2 ∧ x2 ≤ ((S11 3 (((70 + (S11 0 26)) - 1) - x1)) - 1))) = true then (bnd (A_at N (((70 + (S11 0 26)) - 1) - x1) x2 S11) fun v48 S49 => A_letter_j78 N v48 S49) else (bnd (A_fail N 1 S11) fun v40 S41 => A_letter_j78 N v40 S41)) else (A_letter_j30 N  S11)) else (A_letter_j30 N  S11)) := rfl
set_option maxHeartbeats 4000000 in
set_option maxRecDepth 100000 in
theorem a_letter (l : Launch) (D : va_G) {sh : s_S} {M0 M : s_M} {sz r x1 x2 : Int} {N : Nat} {S S0 : s_M} {v0 : Int} (h : mq sh M0 M r S) (hx1 : rI x1) (hx2 : rI x2) (hF : A_letter N x1 x2 S = some (v0, S0)) : Sp l D y_Model_letter prog_14_method_92_code 4 (some .int) 3 0 0 [vr r, vi x1, vi x2] sh M sz (fun v' sh' M' sz' => v' = some (vi v0) ∧ sh' = sh ∧ sz' = sz ∧ rI v0 ∧ mq sh M0 M' r S0) := by
  have hr0 := h.1.2.1
  refine Sp.ofGo (own := "CiteForgeModel") (nm := "letter") (by decide) rfl rfl (Nat.le_of_ble_eq_true rfl) (lv := [(0, vr r), (1, vi x1), (2, vi x2)]) rfl ?_
  intro g X
  have hJ78 : ∀ (y0 : Int) (S1 M1 : s_M), rI y0 → mq sh M0 M1 r S1 → A_letter_j78 N y0 S1 = some (v0, S0) → Go g 0 0 sh M1 sz 78 [(0, vr r)] [vi y0] := by
    intro y0 S1 M1 hy0 hm hF
    rw [A_letter_j78_e] at hF
    exact go_iret X d_Model_letter_78 rfl rfl (by decide) (by decide) (ret_i hF hy0 hm)
  have hJ30 : ∀ (S1 M1 : s_M), mq sh M0 M1 r S1 → A_letter_j30 N S1 = some (v0, S0) → Go g 0 0 sh M1 sz 30 [(0, vr r)] [] := by
    intro S1 M1 hm hF
    rw [A_letter_j30_e] at hF
    refine go_aload_n X d_Model_letter_30 rfl rfl ?_
    refine go_iconst (v := 1) X d_Model_letter_31 ?_
    obtain ⟨v1, S2, hG3, hF4⟩ := bnd_t hF
    refine go_cV (st2 := []) (r := []) X k_Model_128 (a_fail l D hm (by decide) hG3) hm.1.1 rfl rfl (by decide) (Nat.le_of_ble_eq_true rfl) d_Model_letter_32 (by decide) (by decide) (fun v' sh' M5 sz' hpp => ?_)
    obtain ⟨e1, e2, e3, hv7, md6⟩ := hpp
    subst e1
    rw [e2, e3]
    clear e2 e3
    show Go g 0 0 sh M5 sz 35 [(0, vr r)] [vi v1]
    exact go_iret X d_Model_letter_35 rfl rfl (by decide) (by decide) (ret_i hF4 hv7 md6)
  rw [A_letter_e] at hF
  refine go_aload_n X d_Model_letter_0 rfl rfl ?_
  refine go_iconst (v := 0) X d_Model_letter_1 ?_
  refine go_put (x := 0) (v := vi 0) X f_Model_95 h.1.1 rfl d_Model_letter_2 rfl rfl rfl ?_
  have md8 : mq sh M0 (m_s M r 0 0) r (m_s S 0 0 0) := h.put0 (by decide) ((rg_S (by decide) (by decide) (by decide)))
  generalize m_s M r 0 0 = M9 at md8 ⊢
  refine go_aload_n X d_Model_letter_5 rfl rfl ?_
  refine go_iload_n X d_Model_letter_6 rfl rfl ?_
  obtain ⟨v10, S11, hG12, hF13⟩ := bnd_t hF
  refine go_cV (st2 := []) (r := []) X k_Model_417 (a_none l D md8 hx1 hG12) md8.1.1 rfl rfl (by decide) (Nat.le_of_ble_eq_true rfl) d_Model_letter_7 (by decide) (by decide) (fun v' sh' M14 sz' hpp => ?_)
  obtain ⟨e1, e2, e3, hv16, md15⟩ := hpp
  subst e1
  rw [e2, e3]
  clear e2 e3
  show Go g 0 0 sh M14 sz 10 [(0, vr r), (1, vi x1), (2, vi x2)] [vi v10]
  refine go_if_ne (tgt := 30) X d_Model_letter_10 rfl hv16 (fun hq17 => ?_) (fun hq17 => ?_)
  · skip
    have hF18 := if_f hF13 hq17
    refine go_lv (lv' := [(0, vr r)]) X [0] rfl ?_
    exact hJ30  S11 M14  md15 hF18
  · skip
    have hF19 := if_t hF13 hq17
    refine go_aload_n X d_Model_letter_13 rfl rfl ?_
    refine go_get (v := vr (r + 16)) X f_Model_56 md15.1.1 rfl d_Model_letter_14 (s_varr (md15.1.2.2 15 _ rfl).2 (by omega)) ?_
    refine go_aload_n X d_Model_letter_17 rfl rfl ?_
    refine go_get (v := vi (S11 0 26)) X f_Model_250 md15.1.1 rfl d_Model_letter_18 (congrArg (s_v .int) ((md15.s 26).trans (rfl))) ?_
    refine go_iconst (v := 1) X d_Model_letter_21 ?_
    refine go_isub X d_Model_letter_22 ?_
    obtain ⟨hc20, hF21⟩ := chk_t hF19
    refine go_iload_n X d_Model_letter_23 rfl rfl ?_
    refine go_isub X d_Model_letter_24 ?_
    obtain ⟨hc22, hF23⟩ := chk_t hF21
    obtain ⟨hc24, hF25⟩ := chk_t hF23
    refine go_iald X (md15.1.2.2 15 _ rfl).1 (by decide) hc24 d_Model_letter_25 ?_
    refine go_top (v' := vi (S11 16 (((S11 0 26) - 1) - x1))) X (congrArg (fun q => vi q) ((md15.a (by decide) (((S11 0 26) - 1) - x1)).trans (rfl))) ?_
    refine go_iconst (v := 1) X d_Model_letter_26 ?_
    refine go_icmp_eq (tgt := 36) X d_Model_letter_27 rfl (md15.gA (by decide) (((S11 0 26) - 1) - x1)) (by decide) (fun hq26 => ?_) (fun hq26 => ?_)
    · skip
      have hF27 := if_t hF25 hq26
      refine go_bipush (v := 70) X d_Model_letter_36 (by decide) ?_
      refine go_aload_n X d_Model_letter_38 rfl rfl ?_
      refine go_get (v := vi (S11 0 26)) X f_Model_250 md15.1.1 rfl d_Model_letter_39 (congrArg (s_v .int) ((md15.s 26).trans (rfl))) ?_
      refine go_iadd X d_Model_letter_42 ?_
      obtain ⟨hc28, hF29⟩ := chk_t hF27
      refine go_iconst (v := 1) X d_Model_letter_43 ?_
      refine go_isub X d_Model_letter_44 ?_
      obtain ⟨hc30, hF31⟩ := chk_t hF29
      refine go_iload_n X d_Model_letter_45 rfl rfl ?_
      refine go_isub X d_Model_letter_46 ?_
      obtain ⟨hc32, hF33⟩ := chk_t hF31
      refine go_istore_n (lv' := [(3, vi (((70 + (S11 0 26)) - 1) - x1)), (0, vr r), (1, vi x1), (2, vi x2)]) X d_Model_letter_47 rfl (by decide) rfl ?_
      refine go_iload_n X d_Model_letter_48 rfl rfl ?_
      refine go_iconst (v := 0) X d_Model_letter_49 ?_
      refine go_aload_n X d_Model_letter_50 rfl rfl ?_
      refine go_get (v := vr (r + 3)) X f_Model_16 md15.1.1 rfl d_Model_letter_51 (s_varr (md15.1.2.2 2 _ rfl).2 (by omega)) ?_
      refine go_iload_n X d_Model_letter_54 rfl rfl ?_
      obtain ⟨hc34, hF35⟩ := chk_t hF33
      refine go_iald X (md15.1.2.2 2 _ rfl).1 (by decide) hc34 d_Model_letter_55 ?_
      refine go_top (v' := vi (S11 3 (((70 + (S11 0 26)) - 1) - x1))) X (congrArg (fun q => vi q) ((md15.a (by decide) (((70 + (S11 0 26)) - 1) - x1)).trans (rfl))) ?_
      refine go_iconst (v := 1) X d_Model_letter_56 ?_
      refine go_isub X d_Model_letter_57 ?_
      obtain ⟨hc36, hF37⟩ := chk_t hF35
      refine go_cSf (st2 := [vi (s_b (decide (0 ≤ x2 ∧ x2 ≤ ((S11 3 (((70 + (S11 0 26)) - 1) - x1)) - 1))))]) (r := []) X k_Model_103 (m_within l D hx2 (by decide) hc36) rfl rfl (by decide) (Nat.le_of_ble_eq_true rfl) d_Model_letter_58 (by decide) (by decide) rfl ?_
      refine go_ifb_eq (tgt := 73) X d_Model_letter_61 rfl (fun hq38 => ?_) (fun hq38 => ?_)
      · skip
        have hF39 := if_f hF37 (bnf hq38)
        refine go_aload_n X d_Model_letter_73 rfl rfl ?_
        refine go_iconst (v := 1) X d_Model_letter_74 ?_
        obtain ⟨v40, S41, hG42, hF43⟩ := bnd_t hF39
        refine go_cV (st2 := []) (r := []) X k_Model_128 (a_fail l D md15 (by decide) hG42) md15.1.1 rfl rfl (by decide) (Nat.le_of_ble_eq_true rfl) d_Model_letter_75 (by decide) (by decide) (fun v' sh' M44 sz' hpp => ?_)
        obtain ⟨e1, e2, e3, hv46, md45⟩ := hpp
        subst e1
        rw [e2, e3]
        clear e2 e3
        show Go g 0 0 sh M44 sz 78 [(3, vi (((70 + (S11 0 26)) - 1) - x1)), (0, vr r), (1, vi x1), (2, vi x2)] [vi v40]
        refine go_lv (lv' := [(0, vr r)]) X [1] rfl ?_
        exact hJ78 v40 S41 M44 hv46 md45 hF43
      · skip
        have hF47 := if_t hF37 hq38
        refine go_aload_n X d_Model_letter_64 rfl rfl ?_
        refine go_iload_n X d_Model_letter_65 rfl rfl ?_
        refine go_iload_n X d_Model_letter_66 rfl rfl ?_
        obtain ⟨v48, S49, hG50, hF51⟩ := bnd_t hF47
        refine go_cV (st2 := []) (r := []) X k_Model_99 (a_at l D md15 hc32 hx2 hG50) md15.1.1 rfl rfl (by decide) (Nat.le_of_ble_eq_true rfl) d_Model_letter_67 (by decide) (by decide) (fun v' sh' M52 sz' hpp => ?_)
        obtain ⟨e1, e2, e3, hv54, md53⟩ := hpp
        subst e1
        rw [e2, e3]
        clear e2 e3
        show Go g 0 0 sh M52 sz 70 [(3, vi (((70 + (S11 0 26)) - 1) - x1)), (0, vr r), (1, vi x1), (2, vi x2)] [vi v48]
        refine go_goto (tgt := 78) X d_Model_letter_70 rfl ?_
        refine go_lv (lv' := [(0, vr r)]) X [1] rfl ?_
        exact hJ78 v48 S49 M52 hv54 md53 hF51
    · skip
      have hF55 := if_f hF25 hq26
      refine go_lv (lv' := [(0, vr r)]) X [0] rfl ?_
      exact hJ30  S11 M14  md15 hF55
def A_empty (N : Nat) (S : s_M) : rO := some (S 0 26, m_s (m_s S 0 0 0) 0 26 0)
theorem A_empty_e (N : Nat) (S : s_M) : A_empty N S = (some (S 0 26, m_s (m_s S 0 0 0) 0 26 0)) := rfl
set_option maxHeartbeats 4000000 in
set_option maxRecDepth 100000 in
theorem a_empty (l : Launch) (D : va_G) {sh : s_S} {M0 M : s_M} {sz r  : Int} {N : Nat} {S S0 : s_M} {v0 : Int} (h : mq sh M0 M r S) (hF : A_empty N S = some (v0, S0)) : Sp l D y_Model_empty prog_14_method_93_code 2 (some .int) 1 0 0 [vr r] sh M sz (fun v' sh' M' sz' => v' = some (vi v0) ∧ sh' = sh ∧ sz' = sz ∧ rI v0 ∧ mq sh M0 M' r S0) := by
  have hr0 := h.1.2.1
  refine Sp.ofGo (own := "CiteForgeModel") (nm := "empty") (by decide) rfl rfl (Nat.le_of_ble_eq_true rfl) (lv := [(0, vr r)]) rfl ?_
  intro g X
  rw [A_empty_e] at hF
  refine go_aload_n X d_Model_empty_0 rfl rfl ?_
  refine go_iconst (v := 0) X d_Model_empty_1 ?_
  refine go_put (x := 0) (v := vi 0) X f_Model_95 h.1.1 rfl d_Model_empty_2 rfl rfl rfl ?_
  have md1 : mq sh M0 (m_s M r 0 0) r (m_s S 0 0 0) := h.put0 (by decide) ((rg_S (by decide) (by decide) (by decide)))
  generalize m_s M r 0 0 = M2 at md1 ⊢
  refine go_aload_n X d_Model_empty_5 rfl rfl ?_
  refine go_get (v := vi (S 0 26)) X f_Model_250 md1.1.1 rfl d_Model_empty_6 (congrArg (s_v .int) ((md1.s 26).trans ((m_sj (by decide)).trans (rfl)))) ?_
  refine go_istore_n (lv' := [(1, vi (S 0 26)), (0, vr r)]) X d_Model_empty_9 rfl (by decide) rfl ?_
  refine go_aload_n X d_Model_empty_10 rfl rfl ?_
  refine go_iconst (v := 0) X d_Model_empty_11 ?_
  refine go_put (x := 0) (v := vi 0) X f_Model_250 md1.1.1 rfl d_Model_empty_12 rfl rfl rfl ?_
  have md3 : mq sh M0 (m_s M2 r 26 0) r (m_s (m_s S 0 0 0) 0 26 0) := md1.put0 (by decide) ((rg_S (by decide) (by decide) (by decide)))
  generalize m_s M2 r 26 0 = M4 at md3 ⊢
  refine go_iload_n X d_Model_empty_15 rfl rfl ?_
  exact go_iret X d_Model_empty_16 rfl rfl (by decide) (by decide) (ret_i hF (rI_eq (md1.gS 26 (by decide) (by decide)) ((m_sj (by decide)).trans (rfl))) md3)
def A_line_j65 (N : Nat) (y0 : Int) (S : s_M) : rO := some (y0, S)
theorem A_line_j65_e (N : Nat) (y0 : Int) (S : s_M) : A_line_j65 N y0 S = (some (y0, S)) := rfl
def A_line_j23 (N : Nat) (S : s_M) : rO := bnd (A_fail N 1 S) fun v1 S2 => some (v1, S2)
theorem A_line_j23_e (N : Nat) (S : s_M) : A_line_j23 N S = (bnd (A_fail N 1 S) fun v1 S2 => some (v1, S2)) := rfl
def A_line (N : Nat) (x1 x2 : Int) (S : s_M) : rO := if (decide (0 ≤ x1 ∧ x1 ≤ 23)) = true then (if x1 < (S 0 44) then (chk (0 ≤ x1 ∧ x1 < 24) <| chk (rI ((S 27 x1) - 1)) <| if (decide (0 ≤ x2 ∧ x2 ≤ ((S 27 x1) - 1))) = true then (chk (rI (180 * x1)) <| chk (rI ((180 * x1) + x2)) <| chk (0 ≤ ((180 * x1) + x2) ∧ ((180 * x1) + x2) < 4320) <| A_line_j65 N (S 28 ((180 * x1) + x2)) (m_s S 0 0 0)) else (bnd (A_fail N 2 (m_s S 0 0 0)) fun v21 S22 => A_line_j65 N v21 S22)) else (A_line_j23 N  (m_s S 0 0 0))) else (A_line_j23 N  (m_s S 0 0 0))
theorem A_line_e (N : Nat) (x1 x2 : Int) (S : s_M) : A_line N x1 x2 S = (if (decide (0 ≤ x1 ∧ x1 ≤ 23)) = true then (if x1 < (S 0 44) then (chk (0 ≤ x1 ∧ x1 < 24) <| chk (rI ((S 27 x1) - 1)) <| if (decide (0 ≤ x2 ∧ x2 ≤ ((S 27 x1) - 1))) = true then (chk (rI (180 * x1)) <| chk (rI ((180 * x1) + x2)) <| chk (0 ≤ ((180 * x1) + x2) ∧ ((180 * x1) + x2) < 4320) <| A_line_j65 N (S 28 ((180 * x1) + x2)) (m_s S 0 0 0)) else (bnd (A_fail N 2 (m_s S 0 0 0)) fun v21 S22 => A_line_j65 N v21 S22)) else (A_line_j23 N  (m_s S 0 0 0))) else (A_line_j23 N  (m_s S 0 0 0))) := rfl
set_option maxHeartbeats 4000000 in
set_option maxRecDepth 100000 in
theorem a_line (l : Launch) (D : va_G) {sh : s_S} {M0 M : s_M} {sz r x1 x2 : Int} {N : Nat} {S S0 : s_M} {v0 : Int} (h : mq sh M0 M r S) (hx1 : rI x1) (hx2 : rI x2) (hF : A_line N x1 x2 S = some (v0, S0)) : Sp l D y_Model_line prog_14_method_94_code 3 (some .int) 2 0 0 [vr r, vi x1, vi x2] sh M sz (fun v' sh' M' sz' => v' = some (vi v0) ∧ sh' = sh ∧ sz' = sz ∧ rI v0 ∧ mq sh M0 M' r S0) := by
  have hr0 := h.1.2.1
  refine Sp.ofGo (own := "CiteForgeModel") (nm := "line") (by decide) rfl rfl (Nat.le_of_ble_eq_true rfl) (lv := [(0, vr r), (1, vi x1), (2, vi x2)]) rfl ?_
  intro g X
  have hJ65 : ∀ (y0 : Int) (S1 M1 : s_M), rI y0 → mq sh M0 M1 r S1 → A_line_j65 N y0 S1 = some (v0, S0) → Go g 0 0 sh M1 sz 65 [(0, vr r)] [vi y0] := by
    intro y0 S1 M1 hy0 hm hF
    rw [A_line_j65_e] at hF
    exact go_iret X d_Model_line_65 rfl rfl (by decide) (by decide) (ret_i hF hy0 hm)
  have hJ23 : ∀ (S1 M1 : s_M), mq sh M0 M1 r S1 → A_line_j23 N S1 = some (v0, S0) → Go g 0 0 sh M1 sz 23 [(0, vr r)] [] := by
    intro S1 M1 hm hF
    rw [A_line_j23_e] at hF
    refine go_aload_n X d_Model_line_23 rfl rfl ?_
    refine go_iconst (v := 1) X d_Model_line_24 ?_
    obtain ⟨v1, S2, hG3, hF4⟩ := bnd_t hF
    refine go_cV (st2 := []) (r := []) X k_Model_128 (a_fail l D hm (by decide) hG3) hm.1.1 rfl rfl (by decide) (Nat.le_of_ble_eq_true rfl) d_Model_line_25 (by decide) (by decide) (fun v' sh' M5 sz' hpp => ?_)
    obtain ⟨e1, e2, e3, hv7, md6⟩ := hpp
    subst e1
    rw [e2, e3]
    clear e2 e3
    show Go g 0 0 sh M5 sz 28 [(0, vr r)] [vi v1]
    exact go_iret X d_Model_line_28 rfl rfl (by decide) (by decide) (ret_i hF4 hv7 md6)
  rw [A_line_e] at hF
  refine go_aload_n X d_Model_line_0 rfl rfl ?_
  refine go_iconst (v := 0) X d_Model_line_1 ?_
  refine go_put (x := 0) (v := vi 0) X f_Model_95 h.1.1 rfl d_Model_line_2 rfl rfl rfl ?_
  have md8 : mq sh M0 (m_s M r 0 0) r (m_s S 0 0 0) := h.put0 (by decide) ((rg_S (by decide) (by decide) (by decide)))
  generalize m_s M r 0 0 = M9 at md8 ⊢
  refine go_iload_n X d_Model_line_5 rfl rfl ?_
  refine go_iconst (v := 0) X d_Model_line_6 ?_
  refine go_bipush (v := 23) X d_Model_line_7 (by decide) ?_
  refine go_cSf (st2 := [vi (s_b (decide (0 ≤ x1 ∧ x1 ≤ 23)))]) (r := []) X k_Model_103 (m_within l D hx1 (by decide) (by decide)) rfl rfl (by decide) (Nat.le_of_ble_eq_true rfl) d_Model_line_9 (by decide) (by decide) rfl ?_
  refine go_ifb_eq (tgt := 23) X d_Model_line_12 rfl (fun hq10 => ?_) (fun hq10 => ?_)
  · skip
    have hF11 := if_f hF (bnf hq10)
    refine go_lv (lv' := [(0, vr r)]) X [0] rfl ?_
    exact hJ23  (m_s S 0 0 0) M9  md8 hF11
  · skip
    have hF12 := if_t hF hq10
    refine go_iload_n X d_Model_line_15 rfl rfl ?_
    refine go_aload_n X d_Model_line_16 rfl rfl ?_
    refine go_get (v := vi (S 0 44)) X f_Model_377 md8.1.1 rfl d_Model_line_17 (congrArg (s_v .int) ((md8.s 44).trans ((m_sj (by decide)).trans (rfl)))) ?_
    refine go_icmp_lt (tgt := 29) X d_Model_line_20 rfl hx1 (rI_eq (md8.gS 44 (by decide) (by decide)) ((m_sj (by decide)).trans (rfl))) (fun hq13 => ?_) (fun hq13 => ?_)
    · skip
      have hF14 := if_t hF12 hq13
      refine go_iload_n X d_Model_line_29 rfl rfl ?_
      refine go_iconst (v := 0) X d_Model_line_30 ?_
      refine go_aload_n X d_Model_line_31 rfl rfl ?_
      refine go_get (v := vr (r + 27)) X f_Model_89 md8.1.1 rfl d_Model_line_32 (s_varr (md8.1.2.2 26 _ rfl).2 (by omega)) ?_
      refine go_iload_n X d_Model_line_35 rfl rfl ?_
      obtain ⟨hc15, hF16⟩ := chk_t hF14
      refine go_iald X (md8.1.2.2 26 _ rfl).1 (by decide) hc15 d_Model_line_36 ?_
      refine go_top (v' := vi (S 27 x1)) X (congrArg (fun q => vi q) ((md8.a (by decide) x1).trans ((m_sk (by decide)).trans (rfl)))) ?_
      refine go_iconst (v := 1) X d_Model_line_37 ?_
      refine go_isub X d_Model_line_38 ?_
      obtain ⟨hc17, hF18⟩ := chk_t hF16
      refine go_cSf (st2 := [vi (s_b (decide (0 ≤ x2 ∧ x2 ≤ ((S 27 x1) - 1))))]) (r := []) X k_Model_103 (m_within l D hx2 (by decide) hc17) rfl rfl (by decide) (Nat.le_of_ble_eq_true rfl) d_Model_line_39 (by decide) (by decide) rfl ?_
      refine go_ifb_eq (tgt := 60) X d_Model_line_42 rfl (fun hq19 => ?_) (fun hq19 => ?_)
      · skip
        have hF20 := if_f hF18 (bnf hq19)
        refine go_aload_n X d_Model_line_60 rfl rfl ?_
        refine go_iconst (v := 2) X d_Model_line_61 ?_
        obtain ⟨v21, S22, hG23, hF24⟩ := bnd_t hF20
        refine go_cV (st2 := []) (r := []) X k_Model_128 (a_fail l D md8 (by decide) hG23) md8.1.1 rfl rfl (by decide) (Nat.le_of_ble_eq_true rfl) d_Model_line_62 (by decide) (by decide) (fun v' sh' M25 sz' hpp => ?_)
        obtain ⟨e1, e2, e3, hv27, md26⟩ := hpp
        subst e1
        rw [e2, e3]
        clear e2 e3
        show Go g 0 0 sh M25 sz 65 [(0, vr r), (1, vi x1), (2, vi x2)] [vi v21]
        refine go_lv (lv' := [(0, vr r)]) X [0] rfl ?_
        exact hJ65 v21 S22 M25 hv27 md26 hF24
      · skip
        have hF28 := if_t hF18 hq19
        refine go_aload_n X d_Model_line_45 rfl rfl ?_
        refine go_get (v := vr (r + 28)) X f_Model_92 md8.1.1 rfl d_Model_line_46 (s_varr (md8.1.2.2 27 _ rfl).2 (by omega)) ?_
        refine go_sipush (v := 180) X d_Model_line_49 (by decide) ?_
        refine go_iload_n X d_Model_line_52 rfl rfl ?_
        refine go_imul X d_Model_line_53 ?_
        obtain ⟨hc29, hF30⟩ := chk_t hF28
        refine go_iload_n X d_Model_line_54 rfl rfl ?_
        refine go_iadd X d_Model_line_55 ?_
        obtain ⟨hc31, hF32⟩ := chk_t hF30
        obtain ⟨hc33, hF34⟩ := chk_t hF32
        refine go_iald X (md8.1.2.2 27 _ rfl).1 (by decide) hc33 d_Model_line_56 ?_
        refine go_top (v' := vi (S 28 ((180 * x1) + x2))) X (congrArg (fun q => vi q) ((md8.a (by decide) ((180 * x1) + x2)).trans ((m_sk (by decide)).trans (rfl)))) ?_
        refine go_goto (tgt := 65) X d_Model_line_57 rfl ?_
        refine go_lv (lv' := [(0, vr r)]) X [0] rfl ?_
        exact hJ65 (S 28 ((180 * x1) + x2)) (m_s S 0 0 0) M9 (rI_eq (md8.gA (by decide) ((180 * x1) + x2)) ((m_sk (by decide)).trans (rfl))) md8 hF34
    · skip
      have hF35 := if_f hF12 (Int.not_lt.mpr hq13)
      refine go_lv (lv' := [(0, vr r)]) X [0] rfl ?_
      exact hJ23  (m_s S 0 0 0) M9  md8 hF35
def A_count (N : Nat) (x1 : Int) (S : s_M) : rO := if (decide (0 ≤ x1 ∧ x1 ≤ 4)) = true then (some (if x1 = 0 then (S 0 6 : Int) else (if x1 = 1 then (S 0 15 : Int) else (if x1 = 2 then (S 0 44 : Int) else (if x1 = 3 then (S 0 45 : Int) else (S 0 13)))), m_s S 0 0 0)) else (bnd (A_fail N 1 (m_s S 0 0 0)) fun v11 S12 => some (v11, S12))
theorem A_count_e (N : Nat) (x1 : Int) (S : s_M) : A_count N x1 S = (if (decide (0 ≤ x1 ∧ x1 ≤ 4)) = true then (some (if x1 = 0 then (S 0 6 : Int) else (if x1 = 1 then (S 0 15 : Int) else (if x1 = 2 then (S 0 44 : Int) else (if x1 = 3 then (S 0 45 : Int) else (S 0 13)))), m_s S 0 0 0)) else (bnd (A_fail N 1 (m_s S 0 0 0)) fun v11 S12 => some (v11, S12))) := rfl
set_option maxHeartbeats 4000000 in
set_option maxRecDepth 100000 in
theorem a_count (l : Launch) (D : va_G) {sh : s_S} {M0 M : s_M} {sz r x1 : Int} {N : Nat} {S S0 : s_M} {v0 : Int} (h : mq sh M0 M r S) (hx1 : rI x1) (hF : A_count N x1 S = some (v0, S0)) : Sp l D y_Model_count prog_14_method_95_code 2 (some .int) 2 0 0 [vr r, vi x1] sh M sz (fun v' sh' M' sz' => v' = some (vi v0) ∧ sh' = sh ∧ sz' = sz ∧ rI v0 ∧ mq sh M0 M' r S0) := by
  have hr0 := h.1.2.1
  refine Sp.ofGo (own := "CiteForgeModel") (nm := "count") (by decide) rfl rfl (Nat.le_of_ble_eq_true rfl) (lv := [(0, vr r), (1, vi x1)]) rfl ?_
  intro g X
  rw [A_count_e] at hF
  refine go_aload_n X d_Model_count_0 rfl rfl ?_
  refine go_iconst (v := 0) X d_Model_count_1 ?_
  refine go_put (x := 0) (v := vi 0) X f_Model_95 h.1.1 rfl d_Model_count_2 rfl rfl rfl ?_
  have md1 : mq sh M0 (m_s M r 0 0) r (m_s S 0 0 0) := h.put0 (by decide) ((rg_S (by decide) (by decide) (by decide)))
  generalize m_s M r 0 0 = M2 at md1 ⊢
  refine go_iload_n X d_Model_count_5 rfl rfl ?_
  refine go_iconst (v := 0) X d_Model_count_6 ?_
  refine go_iconst (v := 4) X d_Model_count_7 ?_
  refine go_cSf (st2 := [vi (s_b (decide (0 ≤ x1 ∧ x1 ≤ 4)))]) (r := []) X k_Model_103 (m_within l D hx1 (by decide) (by decide)) rfl rfl (by decide) (Nat.le_of_ble_eq_true rfl) d_Model_count_8 (by decide) (by decide) rfl ?_
  refine go_ifb_ne (tgt := 20) X d_Model_count_11 rfl (fun hq3 => ?_) (fun hq3 => ?_)
  · skip
    have hF4 := if_t hF hq3
    refine go_iload_n X d_Model_count_20 rfl rfl ?_
    suffices hv5 : Go g 0 0 sh M2 sz 71 [(0, vr r), (1, vi x1)] [vi (if x1 = 0 then (S 0 6 : Int) else (if x1 = 1 then (S 0 15 : Int) else (if x1 = 2 then (S 0 44 : Int) else (if x1 = 3 then (S 0 45 : Int) else (S 0 13)))))] by
      refine go_if_ne (tgt := 31) X d_Model_count_21 rfl hx1 (fun hq6 => ?_) (fun hq6 => ?_)
      · skip
        refine go_iload_n X d_Model_count_31 rfl rfl ?_
        refine go_iconst (v := 1) X d_Model_count_32 ?_
        refine go_icmp_ne (tgt := 43) X d_Model_count_33 rfl hx1 (by decide) (fun hq7 => ?_) (fun hq7 => ?_)
        · skip
          refine go_iload_n X d_Model_count_43 rfl rfl ?_
          refine go_iconst (v := 2) X d_Model_count_44 ?_
          refine go_icmp_ne (tgt := 55) X d_Model_count_45 rfl hx1 (by decide) (fun hq8 => ?_) (fun hq8 => ?_)
          · skip
            refine go_iload_n X d_Model_count_55 rfl rfl ?_
            refine go_iconst (v := 3) X d_Model_count_56 ?_
            refine go_icmp_ne (tgt := 67) X d_Model_count_57 rfl hx1 (by decide) (fun hq9 => ?_) (fun hq9 => ?_)
            · skip
              refine go_aload_n X d_Model_count_67 rfl rfl ?_
              refine go_get (v := vi (S 0 13)) X f_Model_228 md1.1.1 rfl d_Model_count_68 (congrArg (s_v .int) ((md1.s 13).trans ((m_sj (by decide)).trans (rfl)))) ?_
              refine go_top (v' := vi (if x1 = 0 then (S 0 6 : Int) else (if x1 = 1 then (S 0 15 : Int) else (if x1 = 2 then (S 0 44 : Int) else (if x1 = 3 then (S 0 45 : Int) else (S 0 13)))))) X (congrArg (fun q => vi q) (show S 0 13 = if x1 = 0 then (S 0 6 : Int) else (if x1 = 1 then (S 0 15 : Int) else (if x1 = 2 then (S 0 44 : Int) else (if x1 = 3 then (S 0 45 : Int) else (S 0 13)))) from ((if_neg hq6).trans ((if_neg hq7).trans ((if_neg hq8).trans ((if_neg hq9))))).symm)) ?_
              exact hv5
            · skip
              refine go_aload_n X d_Model_count_60 rfl rfl ?_
              refine go_get (v := vi (S 0 45)) X f_Model_316 md1.1.1 rfl d_Model_count_61 (congrArg (s_v .int) ((md1.s 45).trans ((m_sj (by decide)).trans (rfl)))) ?_
              refine go_goto (tgt := 71) X d_Model_count_64 rfl ?_
              refine go_top (v' := vi (if x1 = 0 then (S 0 6 : Int) else (if x1 = 1 then (S 0 15 : Int) else (if x1 = 2 then (S 0 44 : Int) else (if x1 = 3 then (S 0 45 : Int) else (S 0 13)))))) X (congrArg (fun q => vi q) (show S 0 45 = if x1 = 0 then (S 0 6 : Int) else (if x1 = 1 then (S 0 15 : Int) else (if x1 = 2 then (S 0 44 : Int) else (if x1 = 3 then (S 0 45 : Int) else (S 0 13)))) from ((if_neg hq6).trans ((if_neg hq7).trans ((if_neg hq8).trans ((if_pos hq9))))).symm)) ?_
              exact hv5
          · skip
            refine go_aload_n X d_Model_count_48 rfl rfl ?_
            refine go_get (v := vi (S 0 44)) X f_Model_377 md1.1.1 rfl d_Model_count_49 (congrArg (s_v .int) ((md1.s 44).trans ((m_sj (by decide)).trans (rfl)))) ?_
            refine go_goto (tgt := 71) X d_Model_count_52 rfl ?_
            refine go_top (v' := vi (if x1 = 0 then (S 0 6 : Int) else (if x1 = 1 then (S 0 15 : Int) else (if x1 = 2 then (S 0 44 : Int) else (if x1 = 3 then (S 0 45 : Int) else (S 0 13)))))) X (congrArg (fun q => vi q) (show S 0 44 = if x1 = 0 then (S 0 6 : Int) else (if x1 = 1 then (S 0 15 : Int) else (if x1 = 2 then (S 0 44 : Int) else (if x1 = 3 then (S 0 45 : Int) else (S 0 13)))) from ((if_neg hq6).trans ((if_neg hq7).trans ((if_pos hq8)))).symm)) ?_
            exact hv5
        · skip
          refine go_aload_n X d_Model_count_36 rfl rfl ?_
          refine go_get (v := vi (S 0 15)) X f_Model_210 md1.1.1 rfl d_Model_count_37 (congrArg (s_v .int) ((md1.s 15).trans ((m_sj (by decide)).trans (rfl)))) ?_
          refine go_goto (tgt := 71) X d_Model_count_40 rfl ?_
          refine go_top (v' := vi (if x1 = 0 then (S 0 6 : Int) else (if x1 = 1 then (S 0 15 : Int) else (if x1 = 2 then (S 0 44 : Int) else (if x1 = 3 then (S 0 45 : Int) else (S 0 13)))))) X (congrArg (fun q => vi q) (show S 0 15 = if x1 = 0 then (S 0 6 : Int) else (if x1 = 1 then (S 0 15 : Int) else (if x1 = 2 then (S 0 44 : Int) else (if x1 = 3 then (S 0 45 : Int) else (S 0 13)))) from ((if_neg hq6).trans ((if_pos hq7))).symm)) ?_
          exact hv5
      · skip
        refine go_aload_n X d_Model_count_24 rfl rfl ?_
        refine go_get (v := vi (S 0 6)) X f_Model_201 md1.1.1 rfl d_Model_count_25 (congrArg (s_v .int) ((md1.s 6).trans ((m_sj (by decide)).trans (rfl)))) ?_
        refine go_goto (tgt := 71) X d_Model_count_28 rfl ?_
        refine go_top (v' := vi (if x1 = 0 then (S 0 6 : Int) else (if x1 = 1 then (S 0 15 : Int) else (if x1 = 2 then (S 0 44 : Int) else (if x1 = 3 then (S 0 45 : Int) else (S 0 13)))))) X (congrArg (fun q => vi q) (show S 0 6 = if x1 = 0 then (S 0 6 : Int) else (if x1 = 1 then (S 0 15 : Int) else (if x1 = 2 then (S 0 44 : Int) else (if x1 = 3 then (S 0 45 : Int) else (S 0 13)))) from ((if_pos hq6)).symm)) ?_
        exact hv5
    exact go_iret X d_Model_count_71 rfl rfl (by decide) (by decide) (ret_i hF4 (rI_ite (rI_eq (md1.gS 6 (by decide) (by decide)) ((m_sj (by decide)).trans (rfl))) (rI_ite (rI_eq (md1.gS 15 (by decide) (by decide)) ((m_sj (by decide)).trans (rfl))) (rI_ite (rI_eq (md1.gS 44 (by decide) (by decide)) ((m_sj (by decide)).trans (rfl))) (rI_ite (rI_eq (md1.gS 45 (by decide) (by decide)) ((m_sj (by decide)).trans (rfl))) (rI_eq (md1.gS 13 (by decide) (by decide)) ((m_sj (by decide)).trans (rfl))))))) md1)
  · skip
    have hF10 := if_f hF (bnf hq3)
    refine go_aload_n X d_Model_count_14 rfl rfl ?_
    refine go_iconst (v := 1) X d_Model_count_15 ?_
    obtain ⟨v11, S12, hG13, hF14⟩ := bnd_t hF10
    refine go_cV (st2 := []) (r := []) X k_Model_128 (a_fail l D md1 (by decide) hG13) md1.1.1 rfl rfl (by decide) (Nat.le_of_ble_eq_true rfl) d_Model_count_16 (by decide) (by decide) (fun v' sh' M15 sz' hpp => ?_)
    obtain ⟨e1, e2, e3, hv17, md16⟩ := hpp
    subst e1
    rw [e2, e3]
    clear e2 e3
    show Go g 0 0 sh M15 sz 19 [(0, vr r), (1, vi x1)] [vi v11]
    exact go_iret X d_Model_count_19 rfl rfl (by decide) (by decide) (ret_i hF14 hv17 md16)
