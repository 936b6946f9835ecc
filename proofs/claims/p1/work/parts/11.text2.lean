/-! Texts as lists of numbers. -/
def tg (t : List Int) (i : Int) : Int := if 0 ≤ i then t.getD i.toNat 0 else 0
theorem tg_out {t : List Int} {i : Int} (h : ¬ (0 ≤ i ∧ i < t.length)) : tg t i = 0 := by
  unfold tg
  split
  · rw [List.getD_eq_getElem?_getD, List.getElem?_eq_none (by omega)]
    rfl
  · rfl
theorem tg_in {t : List Int} {i : Nat} (h : i < t.length) : tg t (i : Int) = t[i] := by
  unfold tg
  rw [if_pos (by omega), Int.toNat_natCast, List.getD_eq_getElem?_getD, List.getElem?_eq_getElem h]
  rfl
/-- a text of Text: its list; all that it holds are characters -/
def tv (sh : s_S) (M : s_M) (a : Int) (N : Nat) (t : List Int) : Prop := tx sh M a N ∧ M a 1 = t.length ∧ ∀ i : Int, 0 ≤ i → i < t.length → M (a + 1) i = tg t i
theorem tv.at {sh : s_S} {M : s_M} {a : Int} {N : Nat} {t : List Int} (h : tv sh M a N t) (i : Int) : t_at M a i = tg t i := by
  unfold t_at
  by_cases hi : 0 ≤ i ∧ i < M a 1
  · rw [if_pos hi]
    exact h.2.2 i hi.1 (by have := h.2.1; omega)
  · rw [if_neg hi, tg_out (by have := h.2.1; omega)]
theorem tv.rng {sh : s_S} {M : s_M} {a : Int} {N : Nat} {t : List Int} (h : tv sh M a N t) (i : Int) : 0 ≤ tg t i ∧ tg t i < 65536 := by
  rw [← h.at i]
  unfold t_at
  split
  · exact h.1.2.2.2.2.2.1 i
  · omega
theorem tv.len {sh : s_S} {M : s_M} {a : Int} {N : Nat} {t : List Int} (h : tv sh M a N t) : t.length ≤ N ∧ N ≤ 100000 := by
  have h1 := h.1.2.2.2.2.1
  have h2 := h.2.1
  exact ⟨by omega, h.1.2.2.2.2.2.2.2⟩
/-- nothing but what P names has changed -/
def fr (P : Int → Prop) (M M' : s_M) : Prop := ∀ b, ¬ P b → M' b = M b
theorem tv.kept {sh : s_S} {M M' : s_M} {a : Int} {N : Nat} {t : List Int} (h : tv sh M a N t) (h1 : M' a = M a) (h2 : M' (a + 1) = M (a + 1)) : tv sh M' a N t := by
  obtain ⟨⟨q1, q2, q3, q4, q5, q6, q7, q8⟩, q9, q10⟩ := h
  unfold tv tx
  rw [h1, h2]
  exact ⟨⟨q1, q2, q3, q4, q5, q6, q7, q8⟩, q9, q10⟩
/-- add: what would be more than N is left out -/
def ta (N : Nat) (t : List Int) (c : Int) : List Int := if t.length < N then t ++ [c] else t
theorem tg_app {t : List Int} {c i : Int} : tg (t ++ [c]) i = if i = t.length then c else tg t i := by
  unfold tg
  by_cases h0 : 0 ≤ i
  · rw [if_pos h0, if_pos h0, List.getD_eq_getElem?_getD, List.getD_eq_getElem?_getD]
    by_cases h1 : i = t.length
    · rw [if_pos h1, h1, Int.toNat_natCast, List.getElem?_append_right (Nat.le_refl _), Nat.sub_self]
      rfl
    · rw [if_neg h1]
      by_cases h2 : i < t.length
      · rw [List.getElem?_append_left (by omega)]
      · rw [List.getElem?_eq_none (by simp; omega), List.getElem?_eq_none (by omega)]
  · rw [if_neg h0, if_neg h0, if_neg (by omega)]
theorem tv.add {sh : s_S} {M : s_M} {a : Int} {N : Nat} {t : List Int} {c : Int} (h : tv sh M a N t) (hc : 0 ≤ c ∧ c < 65536) : tv sh (t_add M a N c) a N (ta N t c) ∧ fr (fun b => b = a ∨ b = a + 1) M (t_add M a N c) := by
  unfold t_add ta
  have hl := h.2.1
  by_cases h1 : M a 1 < N
  · rw [if_pos h1, if_pos (by omega)]
    obtain ⟨⟨q1, q2, q3, q4, q5, q6, q7, q8⟩, q9, q10⟩ := h
    refine ⟨⟨⟨q1, q2, ?_, ?_, ?_, ?_, q7, q8⟩, ?_, ?_⟩, ?_⟩
    · rw [m_s_n (by omega), m_s_n (by omega)]; exact q3
    · rw [m_s_s]; omega
    · rw [m_s_s]; omega
    · intro i
      rw [m_s_n (by omega)]
      by_cases hi : i = M a 1
      · rw [hi, m_s_s]; exact hc
      · rw [m_s_n (by omega)]; exact q6 i
    · rw [m_s_s, q9]; simp
    · intro i hi0 hi1
      rw [m_s_n (by omega), tg_app]
      by_cases hi : i = t.length
      · rw [if_pos hi, hi, ← q9, m_s_s]
      · rw [if_neg hi, m_s_n (by omega)]
        exact q10 i hi0 (by simp at hi1; omega)
    · intro b hb
      rw [m_s_a (by omega), m_s_a (by omega)]
  · rw [if_neg h1, if_neg (by omega)]
    exact ⟨h, fun b _ => rfl⟩
theorem tv.reset {sh : s_S} {M : s_M} {a : Int} {N : Nat} {t : List Int} (h : tv sh M a N t) : tv sh (m_s M a 1 0) a N [] ∧ fr (fun b => b = a ∨ b = a + 1) M (m_s M a 1 0) := by
  obtain ⟨⟨q1, q2, q3, q4, q5, q6, q7, q8⟩, q9, q10⟩ := h
  refine ⟨⟨⟨q1, q2, ?_, ?_, ?_, ?_, q7, q8⟩, ?_, ?_⟩, ?_⟩
  · rw [m_s_n (by omega)]; exact q3
  · rw [m_s_s]; omega
  · rw [m_s_s]; omega
  · intro i
    rw [m_s_n (by omega)]; exact q6 i
  · rw [m_s_s]; rfl
  · intro i h0 h1
    simp at h1; omega
  · intro b hb
    rw [m_s_a (by omega)]
/-- a loop over i, from i on, n times -/
def it {σ : Type} (f : Int → σ → σ) : Nat → Int → σ → σ
  | 0, _, s => s
  | n + 1, i, s => it f n (i + 1) (f i s)
theorem it_step {σ : Type} (f : Int → σ → σ) {i len : Int} {s : σ} (h : i < len) : it f (len - i).toNat i s = it f (len - (i + 1)).toNat (i + 1) (f i s) := by
  have e : (len - i).toNat = (len - (i + 1)).toNat + 1 := by omega
  rw [e]
  rfl
theorem it_end {σ : Type} (f : Int → σ → σ) {i len : Int} {s : σ} (h : len ≤ i) : it f (len - i).toNat i s = s := by
  have e : (len - i).toNat = 0 := by omega
  rw [e]
  rfl
theorem it_abs {σ : Type} (f : Int → σ → σ) {s : σ} (h : ∀ i, f i s = s) : ∀ (n : Nat) (i : Int), it f n i s = s
  | 0, _ => rfl
  | n + 1, i => by
    show it f n (i + 1) (f i s) = s
    rw [h i]
    exact it_abs f h n (i + 1)
theorem it_congr {σ : Type} (f g : Int → σ → σ) : ∀ (n : Nat) (i : Int) (s : σ), (∀ j s, i ≤ j → j < i + n → f j s = g j s) → it f n i s = it g n i s
  | 0, _, _, _ => rfl
  | n + 1, i, s, h => by
    show it f n (i + 1) (f i s) = it g n (i + 1) (g i s)
    rw [h i s (by omega) (by omega)]
    exact it_congr f g n (i + 1) (g i s) (fun j s h1 h2 => h j s (by omega) (by omega))
/-- all characters answer p -/
def allT (p : Int → Bool) (t : List Int) : Bool := it (fun i b => b && p (tg t i)) ((t.length : Int) - 0).toNat 0 true
set_option maxHeartbeats 4000000 in
set_option maxRecDepth 100000 in
theorem c_Text_isBlankAlone (l : Launch) (D : va_G) {sh : s_S} {M : s_M} {sz a : Int} {N : Nat} {t : List Int} (h : tv sh M a N t) : Sp l D y_Text_isBlankAlone prog_11_method_12_code 2 (some .boolean) 2 0 0 [vr a] sh M sz (pF (some (vi (s_b (allT p_bl t)))) sh M sz) := by
  have hln := h.len
  have hch := h.rng
  obtain ⟨⟨h1, h2, h3, h4, h5, h6, h7, h8⟩, h9, h10⟩ := h
  refine Sp.ofGo (own := "CiteForge$Text") (nm := "isBlankAlone") (by decide) rfl rfl (Nat.le_of_ble_eq_true rfl) (lv := [(0, vr a)]) rfl ?_
  intro g X
  refine go_iconst (v := 0) X d_Text_isBlankAlone_0 ?_
  refine go_istore_n (lv' := [(1, vi 0), (0, vr a)]) X d_Text_isBlankAlone_1 rfl (by decide) rfl ?_
  have loop : ∀ (fuel : Nat) (i : Int), (0 ≤ i) → (i ≤ t.length) → (it (fun i b => b && p_bl (tg t i)) ((t.length : Int) - i).toNat i true = allT p_bl t) → ((t.length : Int) - i).toNat < fuel → Go g 0 0 sh M sz 2 [(0, vr a), (1, vi i)] [] := by
    intro fuel
    induction fuel with
    | zero => intro i hi hi2 hp hm_loop; exact absurd hm_loop (Nat.not_lt_zero _)
    | succ fuel ih_loop =>
      intro i hi hi2 hp hm_loop
      refine go_iload_n X d_Text_isBlankAlone_2 rfl rfl ?_
      refine go_aload_n X d_Text_isBlankAlone_3 rfl rfl ?_
      refine go_get (v := vi (t.length : Int)) X f_Text_15 h1 rfl d_Text_isBlankAlone_4 (congrArg (s_v .int) h9) ?_
      refine go_icmp_ge (tgt := 30) X d_Text_isBlankAlone_7 rfl (by omega) (by omega) (fun hq1 => ?_) (fun hq1 => ?_)
      · skip
        refine go_iconst (v := 1) X d_Text_isBlankAlone_30 ?_
        refine go_iret X d_Text_isBlankAlone_31 rfl ?_ (by omega) (by omega) ?_
        · rfl
        · refine ⟨?_, rfl, rfl, rfl⟩
          rw [it_end (fun i b => b && p_bl (tg t i)) (by omega)] at hp
          rw [← hp]; rfl
      · skip
        refine go_aload_n X d_Text_isBlankAlone_10 rfl rfl ?_
        refine go_get (v := vr (a + 1)) X f_Text_9 h1 rfl d_Text_isBlankAlone_11 (s_varr h3 (by omega)) ?_
        refine go_iload_n X d_Text_isBlankAlone_14 rfl rfl ?_
        refine go_cald X h2 (by omega) (by omega) d_Text_isBlankAlone_15 ?_
        have hc0 := hch i
        refine go_top (v' := vi (tg t i)) X (by rw [h10 i (by omega) (by omega)]) ?_
        refine go_cSf (st2 := [vi (s_b (p_bl (tg t i)))]) (r := []) X k_Text_46 (c_isBlank l D (by omega)) rfl rfl (by omega) (Nat.le_of_ble_eq_true rfl) d_Text_isBlankAlone_16 (by omega) (by omega) rfl ?_
        refine go_ifb_ne (tgt := 24) X d_Text_isBlankAlone_19 rfl (fun hq2 => ?_) (fun hq2 => ?_)
        · skip
          have hn : it (fun i b => b && p_bl (tg t i)) ((t.length : Int) - (i + 1)).toNat (i + 1) true = allT p_bl t := by
            rw [it_step (fun i b => b && p_bl (tg t i)) (by omega)] at hp
            have hp2 : it _ _ _ (true && p_bl (tg t i)) = _ := hp
            rw [hq2] at hp2
            exact hp2
          refine go_iinc (v := 1) (x := i) (lv' := [(1, vi (i + 1)), (0, vr a)]) X d_Text_isBlankAlone_24 rfl (by decide) rfl ?_
          refine go_goto (tgt := 2) X d_Text_isBlankAlone_27 rfl ?_
          refine go_lv (lv' := [(0, vr a), (1, vi (i + 1))]) X [1, 0] rfl ?_
          exact ih_loop (i + 1) (by omega) (by omega) hn (by omega)
        · skip
          refine go_iconst (v := 0) X d_Text_isBlankAlone_22 ?_
          refine go_iret X d_Text_isBlankAlone_23 rfl ?_ (by omega) (by omega) ?_
          · rfl
          · refine ⟨?_, rfl, rfl, rfl⟩
            rw [it_step (fun i b => b && p_bl (tg t i)) (by omega)] at hp
            have hp2 : it _ _ _ (true && p_bl (tg t i)) = _ := hp
            rw [hq2] at hp2
            have hp3 : it (fun i b => b && p_bl (tg t i)) _ _ false = _ := hp2
            rw [it_abs (fun i b => b && p_bl (tg t i)) (fun _ => rfl)] at hp3
            rw [← hp3]; rfl
  refine go_lv (lv' := [(0, vr a), (1, vi 0)]) X [1, 0] rfl ?_
  exact loop _ 0 (by omega) (by omega) rfl (Nat.lt_succ_self _)
