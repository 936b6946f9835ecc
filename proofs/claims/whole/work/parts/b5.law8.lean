set_option maxHeartbeats 4000000 in
set_option maxRecDepth 100000 in
theorem lg_loop {l : Launch} (hl : l.stackTraces = false) {D : va_G} {nm : String} {d mc ms : Nat} {sh0 : s_S} {sz0 : Int} {Po : s_Po} {g : g_X} (X : Cx l D code "CiteForgeLaw" nm 8 ret d mc ms sh0 sz0 Po g) {hh : List (Nat × Nat × Nat × Nat)} (YY : y_C sh0 sz0 hh g) (hd0 : 100 ≤ d) (hmc0 : 100000 ≤ mc) (hms0 : 3000000 ≤ ms) {b N : Nat} {xs : Nat → Int32} (ZZ : z_C b N xs g) (hN : N ≤ 2560) (hPo : ∀ (sh : s_S) (M : s_M) (sz : Int), Po (some (vi 1)) sh M sz) {o : Int} (h0 : 0 ≤ o) : ∀ (fuel : Nat) (i : Int) (k n : Nat) (sh : s_S) (M : s_M) (sz a : Int), (0 ≤ i ∧ i ≤ 2565) → LR sh M sz o a → 0 ≤ a → 5 * (k : Int) ≤ 1385 + 49 * i → 5 * (n : Int) ≤ 87945 + 4374 * i → a ≤ 80000 * i → (2570 - i).toNat < fuel → Go g k n sh M sz 23 [(4, vi i), (3, vr (o + 276)), (2, vr (o + 247)), (1, vr o), (0, vr (b : Int))] [] := by
  intro fuel
  induction fuel with
  | zero => intro i k n sh M sz a hi hLR ha hk hn haa hf; exact absurd hf (Nat.not_lt_zero _)
  | succ fuel ih =>
    intro i k n sh M sz a hi hLR ha hk hn haa hf
    refine go_iload X d_Law_law_23 rfl ?_
    refine go_aload_n X d_Law_law_25 rfl rfl ?_
    refine go_scrlen X ZZ d_Law_law_26 ?_
    refine go_iconst (v := 5) X d_Law_law_27 ?_
    refine go_isub X d_Law_law_28 ?_
    refine go_icmp_gt (tgt := 1230) X d_Law_law_29 rfl (by omega) (by omega) (fun hq1 => ?_) (fun hq1 => ?_)
    · skip
      refine go_iconst (v := 1) X d_Law_law_1230 ?_
      refine go_iret X d_Law_law_1231 rfl ?_ (by omega) (by omega) ?_
      · rfl
      exact hPo _ _ _
    · skip
      refine go_aload_n X d_Law_law_32 rfl rfl ?_
      refine go_iload X d_Law_law_33 rfl ?_
      refine go_scr X ZZ (by omega) (by omega) d_Law_law_35 ?_
      refine go_bipush (v := 31) X d_Law_law_36 (by decide) ?_
      refine go_iand (z := ian_ (scr_ xs i) 31) X d_Law_law_38 (Int32.ofInt_toInt _).symm ?_
      have hian := ian_rng (scr_ xs i) 31
      obtain ⟨s, hd, ns, O, Q, Z, nr, t, WR, YR, vR, nc, m, WC, L, S, T, hcw, hmq, hcp, hok, hou, hsz, hsa⟩ := hLR
      have kont : ∀ (k' n' : Nat) (sh' : s_S) (M' : s_M) (sz' a' : Int), k' ≤ k + 49 → n' ≤ n + 4374 → 0 ≤ a' → a' ≤ s.2.2.1.1 + 80000 → LR sh' M' sz' o a' → Go g k' n' sh' M' sz' 1224 [(4, vi i), (3, vr (o + 276)), (2, vr (o + 247)), (1, vr o), (0, vr (b : Int))] [] := fun k' n' sh' M' sz' a' h1 h2 h3 h4 h5 => by
        refine go_iinc (v := 5) (x := i) (lv' := [(4, vi (i + 5)), (3, vr (o + 276)), (2, vr (o + 247)), (1, vr o), (0, vr (b : Int))]) X d_Law_law_1224 rfl (by decide) rfl ?_
        refine go_goto (tgt := 23) X d_Law_law_1227 rfl ?_
        exact ih (i + 5) k' n' sh' M' sz' a' (by omega) h5 h3 (by omega) (by omega) (by omega) (by omega)
      rcases (show ((ian_ (scr_ xs i) 31) < 0 ∨ 19 < (ian_ (scr_ xs i) 31)) ∨ (ian_ (scr_ xs i) 31) = 0 ∨ (ian_ (scr_ xs i) 31) = 1 ∨ (ian_ (scr_ xs i) 31) = 2 ∨ (ian_ (scr_ xs i) 31) = 3 ∨ (ian_ (scr_ xs i) 31) = 4 ∨ (ian_ (scr_ xs i) 31) = 5 ∨ (ian_ (scr_ xs i) 31) = 6 ∨ (ian_ (scr_ xs i) 31) = 7 ∨ (ian_ (scr_ xs i) 31) = 8 ∨ (ian_ (scr_ xs i) 31) = 9 ∨ (ian_ (scr_ xs i) 31) = 10 ∨ (ian_ (scr_ xs i) 31) = 11 ∨ (ian_ (scr_ xs i) 31) = 12 ∨ (ian_ (scr_ xs i) 31) = 13 ∨ (ian_ (scr_ xs i) 31) = 14 ∨ (ian_ (scr_ xs i) 31) = 15 ∨ (ian_ (scr_ xs i) 31) = 16 ∨ (ian_ (scr_ xs i) 31) = 17 ∨ (ian_ (scr_ xs i) 31) = 18 ∨ (ian_ (scr_ xs i) 31) = 19 by omega) with ht2 | ht2 | ht2 | ht2 | ht2 | ht2 | ht2 | ht2 | ht2 | ht2 | ht2 | ht2 | ht2 | ht2 | ht2 | ht2 | ht2 | ht2 | ht2 | ht2 | ht2
      · skip
        refine go_tabOut (tgt := 1224) X d_Law_law_39 (by omega) ht2 rfl ?_
        refine go_lv (lv' := [(4, vi i), (3, vr (o + 276)), (2, vr (o + 247)), (1, vr o), (0, vr (b : Int))]) X [0, 1, 2, 3, 4] rfl ?_
        exact kont _ _ _ _ _ s.2.2.1.1 (by omega) (by omega) (by omega) (by omega) (LR.mk hcw hmq hcp hok hou hsz rfl)
      · skip
        refine go_tabIn (off := 93) (tgt := 132) X d_Law_law_39 (by omega) (by omega) (by omega) (by rw [ht2]; rfl) rfl ?_
        refine go_lv (lv' := [(4, vi i), (3, vr (o + 276)), (2, vr (o + 247)), (1, vr o), (0, vr (b : Int))]) X [0, 1, 2, 3, 4] rfl ?_
        exact lg_write hl X YY hd0 (by omega) (by omega) ZZ hcw hmq hcp hok hou hsz (by omega) (by omega) (by omega) kont
      · skip
        refine go_tabIn (off := 193) (tgt := 232) X d_Law_law_39 (by omega) (by omega) (by omega) (by rw [ht2]; rfl) rfl ?_
        refine go_lv (lv' := [(4, vi i), (3, vr (o + 276)), (2, vr (o + 247)), (1, vr o), (0, vr (b : Int))]) X [0, 1, 2, 3, 4] rfl ?_
        exact lg_erase hl X YY hd0 (by omega) (by omega) ZZ hcw hmq hcp hok hou hsz (by omega) (by omega) (by omega) kont
      · skip
        refine go_tabIn (off := 206) (tgt := 245) X d_Law_law_39 (by omega) (by omega) (by omega) (by rw [ht2]; rfl) rfl ?_
        refine go_lv (lv' := [(4, vi i), (3, vr (o + 276)), (2, vr (o + 247)), (1, vr o), (0, vr (b : Int))]) X [0, 1, 2, 3, 4] rfl ?_
        exact lg_read hl X YY hd0 (by omega) (by omega) ZZ hcw hmq hcp hok hou hsz (by omega) (by omega) (by omega) kont
      · skip
        refine go_tabIn (off := 219) (tgt := 258) X d_Law_law_39 (by omega) (by omega) (by omega) (by rw [ht2]; rfl) rfl ?_
        refine go_lv (lv' := [(4, vi i), (3, vr (o + 276)), (2, vr (o + 247)), (1, vr o), (0, vr (b : Int))]) X [0, 1, 2, 3, 4] rfl ?_
        exact lg_cite hl X YY hd0 (by omega) (by omega) ZZ hcw hmq hcp hok hou hsz (by omega) (by omega) (by omega) kont
      · skip
        refine go_tabIn (off := 314) (tgt := 353) X d_Law_law_39 (by omega) (by omega) (by omega) (by rw [ht2]; rfl) rfl ?_
        refine go_lv (lv' := [(4, vi i), (3, vr (o + 276)), (2, vr (o + 247)), (1, vr o), (0, vr (b : Int))]) X [0, 1, 2, 3, 4] rfl ?_
        exact lg_forget hl X YY hd0 (by omega) (by omega) ZZ hcw hmq hcp hok hou hsz (by omega) (by omega) (by omega) kont
      · skip
        refine go_tabIn (off := 327) (tgt := 366) X d_Law_law_39 (by omega) (by omega) (by omega) (by rw [ht2]; rfl) rfl ?_
        refine go_lv (lv' := [(4, vi i), (3, vr (o + 276)), (2, vr (o + 247)), (1, vr o), (0, vr (b : Int))]) X [0, 1, 2, 3, 4] rfl ?_
        exact lg_list hl X YY hd0 (by omega) (by omega) ZZ hcw hmq hcp hok hou hsz (by omega) (by omega) (by omega) kont
      · skip
        refine go_tabIn (off := 383) (tgt := 422) X d_Law_law_39 (by omega) (by omega) (by omega) (by rw [ht2]; rfl) rfl ?_
        refine go_lv (lv' := [(4, vi i), (3, vr (o + 276)), (2, vr (o + 247)), (1, vr o), (0, vr (b : Int))]) X [0, 1, 2, 3, 4] rfl ?_
        exact lg_key hl X YY hd0 (by omega) (by omega) ZZ hcw hmq hcp hok hou hsz (by omega) (by omega) (by omega) kont
      · skip
        refine go_tabIn (off := 438) (tgt := 477) X d_Law_law_39 (by omega) (by omega) (by omega) (by rw [ht2]; rfl) rfl ?_
        refine go_lv (lv' := [(4, vi i), (3, vr (o + 276)), (2, vr (o + 247)), (1, vr o), (0, vr (b : Int))]) X [0, 1, 2, 3, 4] rfl ?_
        exact lg_sort hl X YY hd0 (by omega) (by omega) ZZ hcw hmq hcp hok hou hsz (by omega) (by omega) (by omega) kont
      · skip
        refine go_tabIn (off := 451) (tgt := 490) X d_Law_law_39 (by omega) (by omega) (by omega) (by rw [ht2]; rfl) rfl ?_
        refine go_lv (lv' := [(4, vi i), (3, vr (o + 276)), (2, vr (o + 247)), (1, vr o), (0, vr (b : Int))]) X [0, 1, 2, 3, 4] rfl ?_
        exact lg_field hl X YY hd0 (by omega) (by omega) ZZ hcw hmq hcp hok hou hsz (by omega) (by omega) (by omega) kont
      · skip
        refine go_tabIn (off := 563) (tgt := 602) X d_Law_law_39 (by omega) (by omega) (by omega) (by rw [ht2]; rfl) rfl ?_
        refine go_lv (lv' := [(4, vi i), (3, vr (o + 276)), (2, vr (o + 247)), (1, vr o), (0, vr (b : Int))]) X [0, 1, 2, 3, 4] rfl ?_
        exact lg_define hl X YY hd0 (by omega) (by omega) ZZ hcw hmq hcp hok hou hsz (by omega) (by omega) (by omega) kont
      · skip
        refine go_tabIn (off := 675) (tgt := 714) X d_Law_law_39 (by omega) (by omega) (by omega) (by rw [ht2]; rfl) rfl ?_
        refine go_lv (lv' := [(4, vi i), (3, vr (o + 276)), (2, vr (o + 247)), (1, vr o), (0, vr (b : Int))]) X [0, 1, 2, 3, 4] rfl ?_
        exact lg_clear hl X YY hd0 (by omega) (by omega) ZZ hcw hmq hcp hok hou hsz (by omega) (by omega) (by omega) kont
      · skip
        refine go_tabIn (off := 731) (tgt := 770) X d_Law_law_39 (by omega) (by omega) (by omega) (by rw [ht2]; rfl) rfl ?_
        refine go_lv (lv' := [(4, vi i), (3, vr (o + 276)), (2, vr (o + 247)), (1, vr o), (0, vr (b : Int))]) X [0, 1, 2, 3, 4] rfl ?_
        exact lg_run hl X YY hd0 (by omega) (by omega) ZZ hcw hmq hcp hok hou hsz (by omega) (by omega) (by omega) kont
      · skip
        refine go_tabIn (off := 799) (tgt := 838) X d_Law_law_39 (by omega) (by omega) (by omega) (by rw [ht2]; rfl) rfl ?_
        refine go_lv (lv' := [(4, vi i), (3, vr (o + 276)), (2, vr (o + 247)), (1, vr o), (0, vr (b : Int))]) X [0, 1, 2, 3, 4] rfl ?_
        exact lg_depth hl X YY hd0 (by omega) (by omega) ZZ hcw hmq hcp hok hou hsz (by omega) (by omega) (by omega) kont
      · skip
        refine go_tabIn (off := 812) (tgt := 851) X d_Law_law_39 (by omega) (by omega) (by omega) (by rw [ht2]; rfl) rfl ?_
        refine go_lv (lv' := [(4, vi i), (3, vr (o + 276)), (2, vr (o + 247)), (1, vr o), (0, vr (b : Int))]) X [0, 1, 2, 3, 4] rfl ?_
        exact lg_kind hl X YY hd0 (by omega) (by omega) ZZ hcw hmq hcp hok hou hsz (by omega) (by omega) (by omega) kont
      · skip
        refine go_tabIn (off := 868) (tgt := 907) X d_Law_law_39 (by omega) (by omega) (by omega) (by rw [ht2]; rfl) rfl ?_
        refine go_lv (lv' := [(4, vi i), (3, vr (o + 276)), (2, vr (o + 247)), (1, vr o), (0, vr (b : Int))]) X [0, 1, 2, 3, 4] rfl ?_
        exact lg_value hl X YY hd0 (by omega) (by omega) ZZ hcw hmq hcp hok hou hsz (by omega) (by omega) (by omega) kont
      · skip
        refine go_tabIn (off := 924) (tgt := 963) X d_Law_law_39 (by omega) (by omega) (by omega) (by rw [ht2]; rfl) rfl ?_
        refine go_lv (lv' := [(4, vi i), (3, vr (o + 276)), (2, vr (o + 247)), (1, vr o), (0, vr (b : Int))]) X [0, 1, 2, 3, 4] rfl ?_
        exact lg_letter hl X YY hd0 (by omega) (by omega) ZZ hcw hmq hcp hok hou hsz (by omega) (by omega) (by omega) kont
      · skip
        refine go_tabIn (off := 992) (tgt := 1031) X d_Law_law_39 (by omega) (by omega) (by omega) (by rw [ht2]; rfl) rfl ?_
        refine go_lv (lv' := [(4, vi i), (3, vr (o + 276)), (2, vr (o + 247)), (1, vr o), (0, vr (b : Int))]) X [0, 1, 2, 3, 4] rfl ?_
        exact lg_empty hl X YY hd0 (by omega) (by omega) ZZ hcw hmq hcp hok hou hsz (by omega) (by omega) (by omega) kont
      · skip
        refine go_tabIn (off := 1005) (tgt := 1044) X d_Law_law_39 (by omega) (by omega) (by omega) (by rw [ht2]; rfl) rfl ?_
        refine go_lv (lv' := [(4, vi i), (3, vr (o + 276)), (2, vr (o + 247)), (1, vr o), (0, vr (b : Int))]) X [0, 1, 2, 3, 4] rfl ?_
        exact lg_line hl X YY hd0 (by omega) (by omega) ZZ hcw hmq hcp hok hou hsz (by omega) (by omega) (by omega) kont
      · skip
        refine go_tabIn (off := 1073) (tgt := 1112) X d_Law_law_39 (by omega) (by omega) (by omega) (by rw [ht2]; rfl) rfl ?_
        refine go_lv (lv' := [(4, vi i), (3, vr (o + 276)), (2, vr (o + 247)), (1, vr o), (0, vr (b : Int))]) X [0, 1, 2, 3, 4] rfl ?_
        exact lg_count hl X YY hd0 (by omega) (by omega) ZZ hcw hmq hcp hok hou hsz (by omega) (by omega) (by omega) kont
      · skip
        refine go_tabIn (off := 1129) (tgt := 1168) X d_Law_law_39 (by omega) (by omega) (by omega) (by rw [ht2]; rfl) rfl ?_
        refine go_lv (lv' := [(4, vi i), (3, vr (o + 276)), (2, vr (o + 247)), (1, vr o), (0, vr (b : Int))]) X [0, 1, 2, 3, 4] rfl ?_
        exact lg_warnings hl X YY hd0 (by omega) (by omega) ZZ hcw hmq hcp hok hou hsz (by omega) (by omega) (by omega) kont
set_option maxHeartbeats 4000000 in
set_option maxRecDepth 100000 in
theorem lg_whole {l : Launch} (hl : l.stackTraces = false) {D : va_G} {nm : String} {d mc ms : Nat} {sh0 : s_S} {sz0 : Int} {Po : s_Po} {g : g_X} (X : Cx l D code "CiteForgeLaw" nm 8 ret d mc ms sh0 sz0 Po g) {hh : List (Nat × Nat × Nat × Nat)} (YY : y_C sh0 sz0 hh g) (hd0 : 100 ≤ d) (hmc0 : 100000 ≤ mc) (hms0 : 3000000 ≤ ms) {b N : Nat} {xs : Nat → Int32} (ZZ : z_C b N xs g) (hN : N ≤ 2560) (hPo : ∀ (sh : s_S) (M : s_M) (sz : Int), Po (some (vi 1)) sh M sz) {o : Int} (h0 : 0 ≤ o) {sh : s_S} {M : s_M} : Go g 0 0 sh M o 0 [(0, vr (b : Int))] [] := by
  refine go_new (ts := ts_CiteForge) (f := (fun j => if j = 0 ∨ j = 1 ∨ j = 2 ∨ j = 3 ∨ j = 4 ∨ j = 5 ∨ j = 6 then -1 else 0)) X cls10_ok w_cl_Law_8 w_in_10 w_ini_10 (by decide) (by decide) (by omega) (by omega) d_Law_law_0 ?_
  generalize hs2 : s_up sh o (.inl (10, ts_CiteForge)) = sh1
  generalize hM4 : m_new M o (fun j => if j = 0 ∨ j = 1 ∨ j = 2 ∨ j = 3 ∨ j = 4 ∨ j = 5 ∨ j = 6 then -1 else 0) = M3
  have hu5 : up o sh M sh1 M3 := by rw [← hs2, ← hM4]; exact up.new
  have e6 : sh1 o = some (.inl (10, ts_CiteForge)) := by rw [← hs2, s_up_s]
  have rw7 : M3 o = (fun j => if j = 0 ∨ j = 1 ∨ j = 2 ∨ j = 3 ∨ j = 4 ∨ j = 5 ∨ j = 6 then -1 else 0) := by rw [← hM4, m_new_s]
  clear hs2 hM4 hu5
  refine go_kn (k' := 1) (n' := 7) (sz' := o + 1) (by omega) (by omega) (by omega) ?_
  refine go_dup X d_Law_law_3 rfl ?_
  refine go_cI (st2 := []) (r := [vr o]) X k_Law_68 (c_CiteForge_initZ l D e6 rw7 (by omega) (by omega)) rfl rfl (by omega) (Nat.le_of_ble_eq_true rfl) d_Law_law_4 (by omega) (by omega) (fun v sh8 M9 sz' hp => ?_)
  obtain ⟨e10, e11, hu12, pd13⟩ := hp
  subst e10
  refine go_kn (k' := 247) (n' := 6874) (sz' := o + 247) (by omega) (by omega) (by omega) ?_
  show Go g (247) (6874) sh8 M9 (o + 247) 7 [(0, vr (b : Int))] [vr o]
  clear e6 rw7
  clear hu12 e11
  refine go_astore_n (lv' := [(1, vr o), (0, vr (b : Int))]) X d_Law_law_7 rfl (by decide) rfl ?_
  refine go_new (ts := ts_Model) (f := (fun j => if j = 1 ∨ j = 3 ∨ j = 4 ∨ j = 5 ∨ j = 7 ∨ j = 8 ∨ j = 9 ∨ j = 10 ∨ j = 12 ∨ j = 14 ∨ j = 16 ∨ j = 22 ∨ j = 23 ∨ j = 24 ∨ j = 25 ∨ j = 27 ∨ j = 28 ∨ j = 33 ∨ j = 34 ∨ j = 35 ∨ j = 36 ∨ j = 39 ∨ j = 40 ∨ j = 41 ∨ j = 42 ∨ j = 46 ∨ j = 47 ∨ j = 48 then -1 else 0)) X cls11_ok w_cl_Law_69 w_in_11 w_ini_11 (by decide) (by decide) (by omega) (by omega) d_Law_law_8 ?_
  generalize hs15 : s_up sh8 (o + 247) (.inl (11, ts_Model)) = sh14
  generalize hM17 : m_new M9 (o + 247) (fun j => if j = 1 ∨ j = 3 ∨ j = 4 ∨ j = 5 ∨ j = 7 ∨ j = 8 ∨ j = 9 ∨ j = 10 ∨ j = 12 ∨ j = 14 ∨ j = 16 ∨ j = 22 ∨ j = 23 ∨ j = 24 ∨ j = 25 ∨ j = 27 ∨ j = 28 ∨ j = 33 ∨ j = 34 ∨ j = 35 ∨ j = 36 ∨ j = 39 ∨ j = 40 ∨ j = 41 ∨ j = 42 ∨ j = 46 ∨ j = 47 ∨ j = 48 then -1 else 0) = M16
  have hu18 : up (o + 247) sh8 M9 sh14 M16 := by rw [← hs15, ← hM17]; exact up.new
  have pd19 : cfz sh14 M16 o := pd13.mv (hu18.as (by omega))
  clear pd13
  have e20 : sh14 (o + 247) = some (.inl (11, ts_Model)) := by rw [← hs15, s_up_s]
  have rw21 : M16 (o + 247) = (fun j => if j = 1 ∨ j = 3 ∨ j = 4 ∨ j = 5 ∨ j = 7 ∨ j = 8 ∨ j = 9 ∨ j = 10 ∨ j = 12 ∨ j = 14 ∨ j = 16 ∨ j = 22 ∨ j = 23 ∨ j = 24 ∨ j = 25 ∨ j = 27 ∨ j = 28 ∨ j = 33 ∨ j = 34 ∨ j = 35 ∨ j = 36 ∨ j = 39 ∨ j = 40 ∨ j = 41 ∨ j = 42 ∨ j = 46 ∨ j = 47 ∨ j = 48 then -1 else 0) := by rw [← hM17, m_new_s]
  clear hs15 hM17 hu18
  refine go_kn (k' := 248) (n' := 6924) (sz' := o + 248) (by omega) (by omega) (by omega) ?_
  refine go_dup X d_Law_law_11 rfl ?_
  refine go_cI (st2 := []) (r := [vr (o + 247)]) X k_Law_71 (c_Model_init l D e20 rw21 (by omega) (by omega)) rfl rfl (by omega) (Nat.le_of_ble_eq_true rfl) d_Law_law_12 (by omega) (by omega) (fun v sh22 M23 sz' hp => ?_)
  obtain ⟨e24, e25, hu26, pd27⟩ := hp
  subst e24
  refine go_kn (k' := 276) (n' := 17588) (sz' := o + 276) (by omega) (by omega) (by omega) ?_
  show Go g (276) (17588) sh22 M23 (o + 276) 15 [(1, vr o), (0, vr (b : Int))] [vr (o + 247)]
  have pd28 : cfz sh22 M23 o := pd19.mv (hu26.as (by omega))
  clear e20 pd19 rw21
  clear hu26 e25
  refine go_astore_n (lv' := [(2, vr (o + 247)), (1, vr o), (0, vr (b : Int))]) X d_Law_law_15 rfl (by decide) rfl ?_
  refine go_iconst (v := 1) X d_Law_law_16 ?_
  refine go_newa (N := 1) (ty := .long) X w_ac_long rfl (by simp) (by omega) (by omega) (by omega) d_Law_law_17 ?_
  generalize hs30 : s_up sh22 (o + 276) (.inr (.long, 1)) = sh29
  generalize hM32 : m_new M23 (o + 276) (fun _ => 0) = M31
  have hu33 : up (o + 276) sh22 M23 sh29 M31 := by rw [← hs30, ← hM32]; exact up.new
  have pd34 : cfz sh29 M31 o := pd28.mv (hu33.as (by omega))
  have pd35 : mks sh29 M31 (o + 247) mL := pd27.mv (hu33.as (by omega))
  clear pd27 pd28
  have e36 : sh29 (o + 276) = some (.inr (.long, 1)) := by rw [← hs30, s_up_s]
  have rw37 : M31 (o + 276) = (fun _ => 0) := by rw [← hM32, m_new_s]
  clear hs30 hM32 hu33
  refine go_kn (k' := 277) (n' := 17589) (sz' := o + 277) (by omega) (by omega) (by omega) ?_
  refine go_astore_n (lv' := [(3, vr (o + 276)), (2, vr (o + 247)), (1, vr o), (0, vr (b : Int))]) X d_Law_law_19 rfl (by decide) rfl ?_
  refine go_iconst (v := 0) X d_Law_law_20 ?_
  refine go_istore (lv' := [(4, vi 0), (3, vr (o + 276)), (2, vr (o + 247)), (1, vr o), (0, vr (b : Int))]) X d_Law_law_21 (by decide) rfl ?_
  exact lg_loop hl X YY hd0 hmc0 hms0 ZZ hN hPo h0 3000 0 _ _ _ _ _ 0 (by decide) (LR.zero pd34 pd35 e36) (by decide) (by decide) (by decide) (by decide) (by decide)
