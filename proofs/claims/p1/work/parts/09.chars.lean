/-! Characters: what both sides ask of them, as functions. -/
def p_cap (c : Int) : Bool := decide (65 ≤ c ∧ c ≤ 90)
def p_sml (c : Int) : Bool := decide (97 ≤ c ∧ c ≤ 122)
def p_let (c : Int) : Bool := p_sml c || p_cap c
def p_dig (c : Int) : Bool := decide (48 ≤ c ∧ c ≤ 57)
def p_bl (c : Int) : Bool := decide (c = 32 ∨ c = 10)
def p_brc (c : Int) : Bool := decide (c = 123 ∨ c = 125)
def p_wc (c : Int) : Bool := p_let c || (p_dig c || decide (c = 58 ∨ c = 45))
def p_prn (c : Int) : Bool := decide (32 ≤ c ∧ c ≤ 126)
def p_low (c : Int) : Int := if p_cap c = true then c + 32 else c
def p_upp (c : Int) : Int := if p_sml c = true then c - 32 else c
/-- how many braces are open behind c -/
def p_lev (v c : Int) : Int := if c = 123 then v + 1 else if c = 125 ∧ 0 < v then v - 1 else v
theorem p_low_r {c : Int} (h : 0 ≤ c ∧ c < 65536) : 0 ≤ p_low c ∧ p_low c < 65536 := by
  unfold p_low
  split
  · rename_i h1
    simp only [p_cap, decide_eq_true_eq] at h1
    omega
  · omega
theorem p_upp_r {c : Int} (h : 0 ≤ c ∧ c < 65536) : 0 ≤ p_upp c ∧ p_upp c < 65536 := by
  unfold p_upp
  split
  · rename_i h1
    simp only [p_sml, decide_eq_true_eq] at h1
    omega
  · omega
theorem Sp.mono {l : Launch} {D : va_G} {y : MethodName} {cc : ByteArray} {nL : Nat} {ret : Option FieldType} {d mc ms : Nat} {av : List Value} {sh : s_S} {M : s_M} {sz : Int} {Po Po' : s_Po} (h : Sp l D y cc nL ret d mc ms av sh M sz Po) (hP : ∀ v sh' M' sz', Po v sh' M' sz' → Po' v sh' M' sz') : Sp l D y cc nL ret d mc ms av sh M sz Po' := by
  intro p e ha hc hk s m args below hf happ hpre hK
  obtain ⟨n, o, h1, h2, h3, h4, h5⟩ := h p e ha hc hk s m args below hf happ hpre hK
  refine ⟨n, o, h1, h2, h3, ?_, h5⟩
  obtain ⟨v, sh', M', e1, e2, e3⟩ := h4
  exact ⟨v, sh', M', e1, hP _ _ _ _ e2, e3⟩
set_option maxHeartbeats 4000000 in
set_option maxRecDepth 100000 in
theorem c_isCapital (l : Launch) (D : va_G) {sh : s_S} {M : s_M} {sz : Int} {c : Int} (hc : 0 ≤ c ∧ c < 65536) : Sp l D y_CiteForge_isCapital prog_1_method_22_code 1 (some .boolean) 1 0 0 [vi c] sh M sz (pF (some (vi (s_b (p_cap c)))) sh M sz) := by
  refine Sp.ofGo (own := "CiteForge") (nm := "isCapital") (by decide) rfl rfl (Nat.le_of_ble_eq_true rfl) (lv := [(0, vi c)]) rfl ?_
  intro g X
  refine go_iload_n X d_CiteForge_isCapital_0 rfl rfl ?_
  refine go_bipush (v := 65) X d_CiteForge_isCapital_1 (by decide) ?_
  refine go_icmp_lt (tgt := 16) X d_CiteForge_isCapital_3 rfl (by omega) (by omega) (fun hq1 => ?_) (fun hq1 => ?_)
  · skip
    refine go_iconst (v := 0) X d_CiteForge_isCapital_16 ?_
    refine go_iret X d_CiteForge_isCapital_17 rfl ?_ (by omega) (by omega) ?_
    · rfl
    · refine ⟨?_, rfl, rfl, rfl⟩
      have hb : (p_cap c) = false := by simp only [p_cap, p_sml, p_let, p_dig, p_bl, p_brc, p_wc, p_prn, Bool.or_eq_true, Bool.and_eq_true, Bool.or_eq_false_iff, Bool.and_eq_false_iff, decide_eq_true_eq, decide_eq_false_iff_not] at *; omega
      rw [hb]; rfl
  · skip
    refine go_iload_n X d_CiteForge_isCapital_6 rfl rfl ?_
    refine go_bipush (v := 90) X d_CiteForge_isCapital_7 (by decide) ?_
    refine go_icmp_gt (tgt := 16) X d_CiteForge_isCapital_9 rfl (by omega) (by omega) (fun hq2 => ?_) (fun hq2 => ?_)
    · skip
      refine go_iconst (v := 0) X d_CiteForge_isCapital_16 ?_
      refine go_iret X d_CiteForge_isCapital_17 rfl ?_ (by omega) (by omega) ?_
      · rfl
      · refine ⟨?_, rfl, rfl, rfl⟩
        have hb : (p_cap c) = false := by simp only [p_cap, p_sml, p_let, p_dig, p_bl, p_brc, p_wc, p_prn, Bool.or_eq_true, Bool.and_eq_true, Bool.or_eq_false_iff, Bool.and_eq_false_iff, decide_eq_true_eq, decide_eq_false_iff_not] at *; omega
        rw [hb]; rfl
    · skip
      refine go_iconst (v := 1) X d_CiteForge_isCapital_12 ?_
      refine go_goto (tgt := 17) X d_CiteForge_isCapital_13 rfl ?_
      refine go_iret X d_CiteForge_isCapital_17 rfl ?_ (by omega) (by omega) ?_
      · rfl
      · refine ⟨?_, rfl, rfl, rfl⟩
        have hb : (p_cap c) = true := by simp only [p_cap, p_sml, p_let, p_dig, p_bl, p_brc, p_wc, p_prn, Bool.or_eq_true, Bool.and_eq_true, Bool.or_eq_false_iff, Bool.and_eq_false_iff, decide_eq_true_eq, decide_eq_false_iff_not] at *; omega
        rw [hb]; rfl
set_option maxHeartbeats 4000000 in
set_option maxRecDepth 100000 in
theorem c_isSmall (l : Launch) (D : va_G) {sh : s_S} {M : s_M} {sz : Int} {c : Int} (hc : 0 ≤ c ∧ c < 65536) : Sp l D y_CiteForge_isSmall prog_1_method_23_code 1 (some .boolean) 1 0 0 [vi c] sh M sz (pF (some (vi (s_b (p_sml c)))) sh M sz) := by
  refine Sp.ofGo (own := "CiteForge") (nm := "isSmall") (by decide) rfl rfl (Nat.le_of_ble_eq_true rfl) (lv := [(0, vi c)]) rfl ?_
  intro g X
  refine go_iload_n X d_CiteForge_isSmall_0 rfl rfl ?_
  refine go_bipush (v := 97) X d_CiteForge_isSmall_1 (by decide) ?_
  refine go_icmp_lt (tgt := 16) X d_CiteForge_isSmall_3 rfl (by omega) (by omega) (fun hq1 => ?_) (fun hq1 => ?_)
  · skip
    refine go_iconst (v := 0) X d_CiteForge_isSmall_16 ?_
    refine go_iret X d_CiteForge_isSmall_17 rfl ?_ (by omega) (by omega) ?_
    · rfl
    · refine ⟨?_, rfl, rfl, rfl⟩
      have hb : (p_sml c) = false := by simp only [p_cap, p_sml, p_let, p_dig, p_bl, p_brc, p_wc, p_prn, Bool.or_eq_true, Bool.and_eq_true, Bool.or_eq_false_iff, Bool.and_eq_false_iff, decide_eq_true_eq, decide_eq_false_iff_not] at *; omega
      rw [hb]; rfl
  · skip
    refine go_iload_n X d_CiteForge_isSmall_6 rfl rfl ?_
    refine go_bipush (v := 122) X d_CiteForge_isSmall_7 (by decide) ?_
    refine go_icmp_gt (tgt := 16) X d_CiteForge_isSmall_9 rfl (by omega) (by omega) (fun hq2 => ?_) (fun hq2 => ?_)
    · skip
      refine go_iconst (v := 0) X d_CiteForge_isSmall_16 ?_
      refine go_iret X d_CiteForge_isSmall_17 rfl ?_ (by omega) (by omega) ?_
      · rfl
      · refine ⟨?_, rfl, rfl, rfl⟩
        have hb : (p_sml c) = false := by simp only [p_cap, p_sml, p_let, p_dig, p_bl, p_brc, p_wc, p_prn, Bool.or_eq_true, Bool.and_eq_true, Bool.or_eq_false_iff, Bool.and_eq_false_iff, decide_eq_true_eq, decide_eq_false_iff_not] at *; omega
        rw [hb]; rfl
    · skip
      refine go_iconst (v := 1) X d_CiteForge_isSmall_12 ?_
      refine go_goto (tgt := 17) X d_CiteForge_isSmall_13 rfl ?_
      refine go_iret X d_CiteForge_isSmall_17 rfl ?_ (by omega) (by omega) ?_
      · rfl
      · refine ⟨?_, rfl, rfl, rfl⟩
        have hb : (p_sml c) = true := by simp only [p_cap, p_sml, p_let, p_dig, p_bl, p_brc, p_wc, p_prn, Bool.or_eq_true, Bool.and_eq_true, Bool.or_eq_false_iff, Bool.and_eq_false_iff, decide_eq_true_eq, decide_eq_false_iff_not] at *; omega
        rw [hb]; rfl
set_option maxHeartbeats 4000000 in
set_option maxRecDepth 100000 in
theorem c_isLetter (l : Launch) (D : va_G) {sh : s_S} {M : s_M} {sz : Int} {c : Int} (hc : 0 ≤ c ∧ c < 65536) : Sp l D y_CiteForge_isLetter prog_1_method_24_code 1 (some .boolean) 1 0 0 [vi c] sh M sz (pF (some (vi (s_b (p_let c)))) sh M sz) := by
  refine Sp.ofGo (own := "CiteForge") (nm := "isLetter") (by decide) rfl rfl (Nat.le_of_ble_eq_true rfl) (lv := [(0, vi c)]) rfl ?_
  intro g X
  refine go_iload_n X d_CiteForge_isLetter_0 rfl rfl ?_
  refine go_bipush (v := 97) X d_CiteForge_isLetter_1 (by decide) ?_
  refine go_icmp_lt (tgt := 12) X d_CiteForge_isLetter_3 rfl (by omega) (by omega) (fun hq1 => ?_) (fun hq1 => ?_)
  · skip
    refine go_iload_n X d_CiteForge_isLetter_12 rfl rfl ?_
    refine go_bipush (v := 65) X d_CiteForge_isLetter_13 (by decide) ?_
    refine go_icmp_lt (tgt := 28) X d_CiteForge_isLetter_15 rfl (by omega) (by omega) (fun hq2 => ?_) (fun hq2 => ?_)
    · skip
      refine go_iconst (v := 0) X d_CiteForge_isLetter_28 ?_
      refine go_iret X d_CiteForge_isLetter_29 rfl ?_ (by omega) (by omega) ?_
      · rfl
      · refine ⟨?_, rfl, rfl, rfl⟩
        have hb : (p_let c) = false := by simp only [p_cap, p_sml, p_let, p_dig, p_bl, p_brc, p_wc, p_prn, Bool.or_eq_true, Bool.and_eq_true, Bool.or_eq_false_iff, Bool.and_eq_false_iff, decide_eq_true_eq, decide_eq_false_iff_not] at *; omega
        rw [hb]; rfl
    · skip
      refine go_iload_n X d_CiteForge_isLetter_18 rfl rfl ?_
      refine go_bipush (v := 90) X d_CiteForge_isLetter_19 (by decide) ?_
      refine go_icmp_gt (tgt := 28) X d_CiteForge_isLetter_21 rfl (by omega) (by omega) (fun hq3 => ?_) (fun hq3 => ?_)
      · skip
        refine go_iconst (v := 0) X d_CiteForge_isLetter_28 ?_
        refine go_iret X d_CiteForge_isLetter_29 rfl ?_ (by omega) (by omega) ?_
        · rfl
        · refine ⟨?_, rfl, rfl, rfl⟩
          have hb : (p_let c) = false := by simp only [p_cap, p_sml, p_let, p_dig, p_bl, p_brc, p_wc, p_prn, Bool.or_eq_true, Bool.and_eq_true, Bool.or_eq_false_iff, Bool.and_eq_false_iff, decide_eq_true_eq, decide_eq_false_iff_not] at *; omega
          rw [hb]; rfl
      · skip
        refine go_iconst (v := 1) X d_CiteForge_isLetter_24 ?_
        refine go_goto (tgt := 29) X d_CiteForge_isLetter_25 rfl ?_
        refine go_iret X d_CiteForge_isLetter_29 rfl ?_ (by omega) (by omega) ?_
        · rfl
        · refine ⟨?_, rfl, rfl, rfl⟩
          have hb : (p_let c) = true := by simp only [p_cap, p_sml, p_let, p_dig, p_bl, p_brc, p_wc, p_prn, Bool.or_eq_true, Bool.and_eq_true, Bool.or_eq_false_iff, Bool.and_eq_false_iff, decide_eq_true_eq, decide_eq_false_iff_not] at *; omega
          rw [hb]; rfl
  · skip
    refine go_iload_n X d_CiteForge_isLetter_6 rfl rfl ?_
    refine go_bipush (v := 122) X d_CiteForge_isLetter_7 (by decide) ?_
    refine go_icmp_le (tgt := 24) X d_CiteForge_isLetter_9 rfl (by omega) (by omega) (fun hq4 => ?_) (fun hq4 => ?_)
    · skip
      refine go_iconst (v := 1) X d_CiteForge_isLetter_24 ?_
      refine go_goto (tgt := 29) X d_CiteForge_isLetter_25 rfl ?_
      refine go_iret X d_CiteForge_isLetter_29 rfl ?_ (by omega) (by omega) ?_
      · rfl
      · refine ⟨?_, rfl, rfl, rfl⟩
        have hb : (p_let c) = true := by simp only [p_cap, p_sml, p_let, p_dig, p_bl, p_brc, p_wc, p_prn, Bool.or_eq_true, Bool.and_eq_true, Bool.or_eq_false_iff, Bool.and_eq_false_iff, decide_eq_true_eq, decide_eq_false_iff_not] at *; omega
        rw [hb]; rfl
    · skip
      refine go_iload_n X d_CiteForge_isLetter_12 rfl rfl ?_
      refine go_bipush (v := 65) X d_CiteForge_isLetter_13 (by decide) ?_
      refine go_icmp_lt (tgt := 28) X d_CiteForge_isLetter_15 rfl (by omega) (by omega) (fun hq5 => ?_) (fun hq5 => ?_)
      · skip
        refine go_iconst (v := 0) X d_CiteForge_isLetter_28 ?_
        refine go_iret X d_CiteForge_isLetter_29 rfl ?_ (by omega) (by omega) ?_
        · rfl
        · refine ⟨?_, rfl, rfl, rfl⟩
          have hb : (p_let c) = false := by simp only [p_cap, p_sml, p_let, p_dig, p_bl, p_brc, p_wc, p_prn, Bool.or_eq_true, Bool.and_eq_true, Bool.or_eq_false_iff, Bool.and_eq_false_iff, decide_eq_true_eq, decide_eq_false_iff_not] at *; omega
          rw [hb]; rfl
      · skip
        refine go_iload_n X d_CiteForge_isLetter_18 rfl rfl ?_
        refine go_bipush (v := 90) X d_CiteForge_isLetter_19 (by decide) ?_
        refine go_icmp_gt (tgt := 28) X d_CiteForge_isLetter_21 rfl (by omega) (by omega) (fun hq6 => ?_) (fun hq6 => ?_)
        · skip
          refine go_iconst (v := 0) X d_CiteForge_isLetter_28 ?_
          refine go_iret X d_CiteForge_isLetter_29 rfl ?_ (by omega) (by omega) ?_
          · rfl
          · refine ⟨?_, rfl, rfl, rfl⟩
            have hb : (p_let c) = false := by simp only [p_cap, p_sml, p_let, p_dig, p_bl, p_brc, p_wc, p_prn, Bool.or_eq_true, Bool.and_eq_true, Bool.or_eq_false_iff, Bool.and_eq_false_iff, decide_eq_true_eq, decide_eq_false_iff_not] at *; omega
            rw [hb]; rfl
        · skip
          refine go_iconst (v := 1) X d_CiteForge_isLetter_24 ?_
          refine go_goto (tgt := 29) X d_CiteForge_isLetter_25 rfl ?_
          refine go_iret X d_CiteForge_isLetter_29 rfl ?_ (by omega) (by omega) ?_
          · rfl
          · refine ⟨?_, rfl, rfl, rfl⟩
            have hb : (p_let c) = true := by simp only [p_cap, p_sml, p_let, p_dig, p_bl, p_brc, p_wc, p_prn, Bool.or_eq_true, Bool.and_eq_true, Bool.or_eq_false_iff, Bool.and_eq_false_iff, decide_eq_true_eq, decide_eq_false_iff_not] at *; omega
            rw [hb]; rfl
set_option maxHeartbeats 4000000 in
set_option maxRecDepth 100000 in
theorem c_isDigit (l : Launch) (D : va_G) {sh : s_S} {M : s_M} {sz : Int} {c : Int} (hc : 0 ≤ c ∧ c < 65536) : Sp l D y_CiteForge_isDigit prog_1_method_25_code 1 (some .boolean) 1 0 0 [vi c] sh M sz (pF (some (vi (s_b (p_dig c)))) sh M sz) := by
  refine Sp.ofGo (own := "CiteForge") (nm := "isDigit") (by decide) rfl rfl (Nat.le_of_ble_eq_true rfl) (lv := [(0, vi c)]) rfl ?_
  intro g X
  refine go_iload_n X d_CiteForge_isDigit_0 rfl rfl ?_
  refine go_bipush (v := 48) X d_CiteForge_isDigit_1 (by decide) ?_
  refine go_icmp_lt (tgt := 16) X d_CiteForge_isDigit_3 rfl (by omega) (by omega) (fun hq1 => ?_) (fun hq1 => ?_)
  · skip
    refine go_iconst (v := 0) X d_CiteForge_isDigit_16 ?_
    refine go_iret X d_CiteForge_isDigit_17 rfl ?_ (by omega) (by omega) ?_
    · rfl
    · refine ⟨?_, rfl, rfl, rfl⟩
      have hb : (p_dig c) = false := by simp only [p_cap, p_sml, p_let, p_dig, p_bl, p_brc, p_wc, p_prn, Bool.or_eq_true, Bool.and_eq_true, Bool.or_eq_false_iff, Bool.and_eq_false_iff, decide_eq_true_eq, decide_eq_false_iff_not] at *; omega
      rw [hb]; rfl
  · skip
    refine go_iload_n X d_CiteForge_isDigit_6 rfl rfl ?_
    refine go_bipush (v := 57) X d_CiteForge_isDigit_7 (by decide) ?_
    refine go_icmp_gt (tgt := 16) X d_CiteForge_isDigit_9 rfl (by omega) (by omega) (fun hq2 => ?_) (fun hq2 => ?_)
    · skip
      refine go_iconst (v := 0) X d_CiteForge_isDigit_16 ?_
      refine go_iret X d_CiteForge_isDigit_17 rfl ?_ (by omega) (by omega) ?_
      · rfl
      · refine ⟨?_, rfl, rfl, rfl⟩
        have hb : (p_dig c) = false := by simp only [p_cap, p_sml, p_let, p_dig, p_bl, p_brc, p_wc, p_prn, Bool.or_eq_true, Bool.and_eq_true, Bool.or_eq_false_iff, Bool.and_eq_false_iff, decide_eq_true_eq, decide_eq_false_iff_not] at *; omega
        rw [hb]; rfl
    · skip
      refine go_iconst (v := 1) X d_CiteForge_isDigit_12 ?_
      refine go_goto (tgt := 17) X d_CiteForge_isDigit_13 rfl ?_
      refine go_iret X d_CiteForge_isDigit_17 rfl ?_ (by omega) (by omega) ?_
      · rfl
      · refine ⟨?_, rfl, rfl, rfl⟩
        have hb : (p_dig c) = true := by simp only [p_cap, p_sml, p_let, p_dig, p_bl, p_brc, p_wc, p_prn, Bool.or_eq_true, Bool.and_eq_true, Bool.or_eq_false_iff, Bool.and_eq_false_iff, decide_eq_true_eq, decide_eq_false_iff_not] at *; omega
        rw [hb]; rfl
set_option maxHeartbeats 4000000 in
set_option maxRecDepth 100000 in
theorem c_isBlank (l : Launch) (D : va_G) {sh : s_S} {M : s_M} {sz : Int} {c : Int} (hc : 0 ≤ c ∧ c < 65536) : Sp l D y_CiteForge_isBlank prog_1_method_26_code 1 (some .boolean) 1 0 0 [vi c] sh M sz (pF (some (vi (s_b (p_bl c)))) sh M sz) := by
  refine Sp.ofGo (own := "CiteForge") (nm := "isBlank") (by decide) rfl rfl (Nat.le_of_ble_eq_true rfl) (lv := [(0, vi c)]) rfl ?_
  intro g X
  refine go_iload_n X d_CiteForge_isBlank_0 rfl rfl ?_
  refine go_bipush (v := 32) X d_CiteForge_isBlank_1 (by decide) ?_
  refine go_icmp_eq (tgt := 12) X d_CiteForge_isBlank_3 rfl (by omega) (by omega) (fun hq1 => ?_) (fun hq1 => ?_)
  · skip
    refine go_iconst (v := 1) X d_CiteForge_isBlank_12 ?_
    refine go_goto (tgt := 17) X d_CiteForge_isBlank_13 rfl ?_
    refine go_iret X d_CiteForge_isBlank_17 rfl ?_ (by omega) (by omega) ?_
    · rfl
    · refine ⟨?_, rfl, rfl, rfl⟩
      have hb : (p_bl c) = true := by simp only [p_cap, p_sml, p_let, p_dig, p_bl, p_brc, p_wc, p_prn, Bool.or_eq_true, Bool.and_eq_true, Bool.or_eq_false_iff, Bool.and_eq_false_iff, decide_eq_true_eq, decide_eq_false_iff_not] at *; omega
      rw [hb]; rfl
  · skip
    refine go_iload_n X d_CiteForge_isBlank_6 rfl rfl ?_
    refine go_bipush (v := 10) X d_CiteForge_isBlank_7 (by decide) ?_
    refine go_icmp_ne (tgt := 16) X d_CiteForge_isBlank_9 rfl (by omega) (by omega) (fun hq2 => ?_) (fun hq2 => ?_)
    · skip
      refine go_iconst (v := 0) X d_CiteForge_isBlank_16 ?_
      refine go_iret X d_CiteForge_isBlank_17 rfl ?_ (by omega) (by omega) ?_
      · rfl
      · refine ⟨?_, rfl, rfl, rfl⟩
        have hb : (p_bl c) = false := by simp only [p_cap, p_sml, p_let, p_dig, p_bl, p_brc, p_wc, p_prn, Bool.or_eq_true, Bool.and_eq_true, Bool.or_eq_false_iff, Bool.and_eq_false_iff, decide_eq_true_eq, decide_eq_false_iff_not] at *; omega
        rw [hb]; rfl
    · skip
      refine go_iconst (v := 1) X d_CiteForge_isBlank_12 ?_
      refine go_goto (tgt := 17) X d_CiteForge_isBlank_13 rfl ?_
      refine go_iret X d_CiteForge_isBlank_17 rfl ?_ (by omega) (by omega) ?_
      · rfl
      · refine ⟨?_, rfl, rfl, rfl⟩
        have hb : (p_bl c) = true := by simp only [p_cap, p_sml, p_let, p_dig, p_bl, p_brc, p_wc, p_prn, Bool.or_eq_true, Bool.and_eq_true, Bool.or_eq_false_iff, Bool.and_eq_false_iff, decide_eq_true_eq, decide_eq_false_iff_not] at *; omega
        rw [hb]; rfl
set_option maxHeartbeats 4000000 in
set_option maxRecDepth 100000 in
theorem c_isBrace (l : Launch) (D : va_G) {sh : s_S} {M : s_M} {sz : Int} {c : Int} (hc : 0 ≤ c ∧ c < 65536) : Sp l D y_CiteForge_isBrace prog_1_method_27_code 1 (some .boolean) 1 0 0 [vi c] sh M sz (pF (some (vi (s_b (p_brc c)))) sh M sz) := by
  refine Sp.ofGo (own := "CiteForge") (nm := "isBrace") (by decide) rfl rfl (Nat.le_of_ble_eq_true rfl) (lv := [(0, vi c)]) rfl ?_
  intro g X
  refine go_iload_n X d_CiteForge_isBrace_0 rfl rfl ?_
  refine go_bipush (v := 123) X d_CiteForge_isBrace_1 (by decide) ?_
  refine go_icmp_eq (tgt := 12) X d_CiteForge_isBrace_3 rfl (by omega) (by omega) (fun hq1 => ?_) (fun hq1 => ?_)
  · skip
    refine go_iconst (v := 1) X d_CiteForge_isBrace_12 ?_
    refine go_goto (tgt := 17) X d_CiteForge_isBrace_13 rfl ?_
    refine go_iret X d_CiteForge_isBrace_17 rfl ?_ (by omega) (by omega) ?_
    · rfl
    · refine ⟨?_, rfl, rfl, rfl⟩
      have hb : (p_brc c) = true := by simp only [p_cap, p_sml, p_let, p_dig, p_bl, p_brc, p_wc, p_prn, Bool.or_eq_true, Bool.and_eq_true, Bool.or_eq_false_iff, Bool.and_eq_false_iff, decide_eq_true_eq, decide_eq_false_iff_not] at *; omega
      rw [hb]; rfl
  · skip
    refine go_iload_n X d_CiteForge_isBrace_6 rfl rfl ?_
    refine go_bipush (v := 125) X d_CiteForge_isBrace_7 (by decide) ?_
    refine go_icmp_ne (tgt := 16) X d_CiteForge_isBrace_9 rfl (by omega) (by omega) (fun hq2 => ?_) (fun hq2 => ?_)
    · skip
      refine go_iconst (v := 0) X d_CiteForge_isBrace_16 ?_
      refine go_iret X d_CiteForge_isBrace_17 rfl ?_ (by omega) (by omega) ?_
      · rfl
      · refine ⟨?_, rfl, rfl, rfl⟩
        have hb : (p_brc c) = false := by simp only [p_cap, p_sml, p_let, p_dig, p_bl, p_brc, p_wc, p_prn, Bool.or_eq_true, Bool.and_eq_true, Bool.or_eq_false_iff, Bool.and_eq_false_iff, decide_eq_true_eq, decide_eq_false_iff_not] at *; omega
        rw [hb]; rfl
    · skip
      refine go_iconst (v := 1) X d_CiteForge_isBrace_12 ?_
      refine go_goto (tgt := 17) X d_CiteForge_isBrace_13 rfl ?_
      refine go_iret X d_CiteForge_isBrace_17 rfl ?_ (by omega) (by omega) ?_
      · rfl
      · refine ⟨?_, rfl, rfl, rfl⟩
        have hb : (p_brc c) = true := by simp only [p_cap, p_sml, p_let, p_dig, p_bl, p_brc, p_wc, p_prn, Bool.or_eq_true, Bool.and_eq_true, Bool.or_eq_false_iff, Bool.and_eq_false_iff, decide_eq_true_eq, decide_eq_false_iff_not] at *; omega
        rw [hb]; rfl
set_option maxHeartbeats 4000000 in
set_option maxRecDepth 100000 in
theorem c_isPrintable (l : Launch) (D : va_G) {sh : s_S} {M : s_M} {sz : Int} {c : Int} (hc : -2147483648 ≤ c ∧ c < 2147483648) : Sp l D y_CiteForge_isPrintable prog_1_method_29_code 1 (some .boolean) 1 0 0 [vi c] sh M sz (pF (some (vi (s_b (p_prn c)))) sh M sz) := by
  refine Sp.ofGo (own := "CiteForge") (nm := "isPrintable") (by decide) rfl rfl (Nat.le_of_ble_eq_true rfl) (lv := [(0, vi c)]) rfl ?_
  intro g X
  refine go_iload_n X d_CiteForge_isPrintable_0 rfl rfl ?_
  refine go_bipush (v := 32) X d_CiteForge_isPrintable_1 (by decide) ?_
  refine go_icmp_lt (tgt := 16) X d_CiteForge_isPrintable_3 rfl (by omega) (by omega) (fun hq1 => ?_) (fun hq1 => ?_)
  · skip
    refine go_iconst (v := 0) X d_CiteForge_isPrintable_16 ?_
    refine go_iret X d_CiteForge_isPrintable_17 rfl ?_ (by omega) (by omega) ?_
    · rfl
    · refine ⟨?_, rfl, rfl, rfl⟩
      have hb : (p_prn c) = false := by simp only [p_cap, p_sml, p_let, p_dig, p_bl, p_brc, p_wc, p_prn, Bool.or_eq_true, Bool.and_eq_true, Bool.or_eq_false_iff, Bool.and_eq_false_iff, decide_eq_true_eq, decide_eq_false_iff_not] at *; omega
      rw [hb]; rfl
  · skip
    refine go_iload_n X d_CiteForge_isPrintable_6 rfl rfl ?_
    refine go_bipush (v := 126) X d_CiteForge_isPrintable_7 (by decide) ?_
    refine go_icmp_gt (tgt := 16) X d_CiteForge_isPrintable_9 rfl (by omega) (by omega) (fun hq2 => ?_) (fun hq2 => ?_)
    · skip
      refine go_iconst (v := 0) X d_CiteForge_isPrintable_16 ?_
      refine go_iret X d_CiteForge_isPrintable_17 rfl ?_ (by omega) (by omega) ?_
      · rfl
      · refine ⟨?_, rfl, rfl, rfl⟩
        have hb : (p_prn c) = false := by simp only [p_cap, p_sml, p_let, p_dig, p_bl, p_brc, p_wc, p_prn, Bool.or_eq_true, Bool.and_eq_true, Bool.or_eq_false_iff, Bool.and_eq_false_iff, decide_eq_true_eq, decide_eq_false_iff_not] at *; omega
        rw [hb]; rfl
    · skip
      refine go_iconst (v := 1) X d_CiteForge_isPrintable_12 ?_
      refine go_goto (tgt := 17) X d_CiteForge_isPrintable_13 rfl ?_
      refine go_iret X d_CiteForge_isPrintable_17 rfl ?_ (by omega) (by omega) ?_
      · rfl
      · refine ⟨?_, rfl, rfl, rfl⟩
        have hb : (p_prn c) = true := by simp only [p_cap, p_sml, p_let, p_dig, p_bl, p_brc, p_wc, p_prn, Bool.or_eq_true, Bool.and_eq_true, Bool.or_eq_false_iff, Bool.and_eq_false_iff, decide_eq_true_eq, decide_eq_false_iff_not] at *; omega
        rw [hb]; rfl
set_option maxHeartbeats 4000000 in
set_option maxRecDepth 100000 in
theorem c_isWordCharacter (l : Launch) (D : va_G) {sh : s_S} {M : s_M} {sz : Int} {c : Int} (hc : 0 ≤ c ∧ c < 65536) : Sp l D y_CiteForge_isWordCharacter prog_1_method_28_code 1 (some .boolean) 2 0 0 [vi c] sh M sz (pF (some (vi (s_b (p_wc c)))) sh M sz) := by
  refine Sp.ofGo (own := "CiteForge") (nm := "isWordCharacter") (by decide) rfl rfl (Nat.le_of_ble_eq_true rfl) (lv := [(0, vi c)]) rfl ?_
  intro g X
  refine go_iload_n X d_CiteForge_isWordCharacter_0 rfl rfl ?_
  refine go_cSf (st2 := [vi (s_b (p_let c))]) (r := []) X k_CiteForge_225 (c_isLetter l D (by omega)) rfl rfl (by omega) (Nat.le_of_ble_eq_true rfl) d_CiteForge_isWordCharacter_1 (by omega) (by omega) rfl ?_
  refine go_ifb_ne (tgt := 26) X d_CiteForge_isWordCharacter_4 rfl (fun hq1 => ?_) (fun hq1 => ?_)
  · skip
    refine go_iconst (v := 1) X d_CiteForge_isWordCharacter_26 ?_
    refine go_goto (tgt := 31) X d_CiteForge_isWordCharacter_27 rfl ?_
    refine go_iret X d_CiteForge_isWordCharacter_31 rfl ?_ (by omega) (by omega) ?_
    · rfl
    · refine ⟨?_, rfl, rfl, rfl⟩
      have hb : (p_wc c) = true := by simp only [p_cap, p_sml, p_let, p_dig, p_bl, p_brc, p_wc, p_prn, Bool.or_eq_true, Bool.and_eq_true, Bool.or_eq_false_iff, Bool.and_eq_false_iff, decide_eq_true_eq, decide_eq_false_iff_not] at *; omega
      rw [hb]; rfl
  · skip
    refine go_iload_n X d_CiteForge_isWordCharacter_7 rfl rfl ?_
    refine go_cSf (st2 := [vi (s_b (p_dig c))]) (r := []) X k_CiteForge_229 (c_isDigit l D (by omega)) rfl rfl (by omega) (Nat.le_of_ble_eq_true rfl) d_CiteForge_isWordCharacter_8 (by omega) (by omega) rfl ?_
    refine go_ifb_ne (tgt := 26) X d_CiteForge_isWordCharacter_11 rfl (fun hq2 => ?_) (fun hq2 => ?_)
    · skip
      refine go_iconst (v := 1) X d_CiteForge_isWordCharacter_26 ?_
      refine go_goto (tgt := 31) X d_CiteForge_isWordCharacter_27 rfl ?_
      refine go_iret X d_CiteForge_isWordCharacter_31 rfl ?_ (by omega) (by omega) ?_
      · rfl
      · refine ⟨?_, rfl, rfl, rfl⟩
        have hb : (p_wc c) = true := by simp only [p_cap, p_sml, p_let, p_dig, p_bl, p_brc, p_wc, p_prn, Bool.or_eq_true, Bool.and_eq_true, Bool.or_eq_false_iff, Bool.and_eq_false_iff, decide_eq_true_eq, decide_eq_false_iff_not] at *; omega
        rw [hb]; rfl
    · skip
      refine go_iload_n X d_CiteForge_isWordCharacter_14 rfl rfl ?_
      refine go_bipush (v := 58) X d_CiteForge_isWordCharacter_15 (by decide) ?_
      refine go_icmp_eq (tgt := 26) X d_CiteForge_isWordCharacter_17 rfl (by omega) (by omega) (fun hq3 => ?_) (fun hq3 => ?_)
      · skip
        refine go_iconst (v := 1) X d_CiteForge_isWordCharacter_26 ?_
        refine go_goto (tgt := 31) X d_CiteForge_isWordCharacter_27 rfl ?_
        refine go_iret X d_CiteForge_isWordCharacter_31 rfl ?_ (by omega) (by omega) ?_
        · rfl
        · refine ⟨?_, rfl, rfl, rfl⟩
          have hb : (p_wc c) = true := by simp only [p_cap, p_sml, p_let, p_dig, p_bl, p_brc, p_wc, p_prn, Bool.or_eq_true, Bool.and_eq_true, Bool.or_eq_false_iff, Bool.and_eq_false_iff, decide_eq_true_eq, decide_eq_false_iff_not] at *; omega
          rw [hb]; rfl
      · skip
        refine go_iload_n X d_CiteForge_isWordCharacter_20 rfl rfl ?_
        refine go_bipush (v := 45) X d_CiteForge_isWordCharacter_21 (by decide) ?_
        refine go_icmp_ne (tgt := 30) X d_CiteForge_isWordCharacter_23 rfl (by omega) (by omega) (fun hq4 => ?_) (fun hq4 => ?_)
        · skip
          refine go_iconst (v := 0) X d_CiteForge_isWordCharacter_30 ?_
          refine go_iret X d_CiteForge_isWordCharacter_31 rfl ?_ (by omega) (by omega) ?_
          · rfl
          · refine ⟨?_, rfl, rfl, rfl⟩
            have hb : (p_wc c) = false := by simp only [p_cap, p_sml, p_let, p_dig, p_bl, p_brc, p_wc, p_prn, Bool.or_eq_true, Bool.and_eq_true, Bool.or_eq_false_iff, Bool.and_eq_false_iff, decide_eq_true_eq, decide_eq_false_iff_not] at *; omega
            rw [hb]; rfl
        · skip
          refine go_iconst (v := 1) X d_CiteForge_isWordCharacter_26 ?_
          refine go_goto (tgt := 31) X d_CiteForge_isWordCharacter_27 rfl ?_
          refine go_iret X d_CiteForge_isWordCharacter_31 rfl ?_ (by omega) (by omega) ?_
          · rfl
          · refine ⟨?_, rfl, rfl, rfl⟩
            have hb : (p_wc c) = true := by simp only [p_cap, p_sml, p_let, p_dig, p_bl, p_brc, p_wc, p_prn, Bool.or_eq_true, Bool.and_eq_true, Bool.or_eq_false_iff, Bool.and_eq_false_iff, decide_eq_true_eq, decide_eq_false_iff_not] at *; omega
            rw [hb]; rfl
set_option maxHeartbeats 4000000 in
set_option maxRecDepth 100000 in
theorem c_smallOf (l : Launch) (D : va_G) {sh : s_S} {M : s_M} {sz : Int} {c : Int} (hc : 0 ≤ c ∧ c < 65536) : Sp l D y_CiteForge_smallOf prog_1_method_30_code 1 (some .char) 2 0 0 [vi c] sh M sz (pF (some (vi (p_low c))) sh M sz) := by
  refine Sp.ofGo (own := "CiteForge") (nm := "smallOf") (by decide) rfl rfl (Nat.le_of_ble_eq_true rfl) (lv := [(0, vi c)]) rfl ?_
  intro g X
  refine go_iload_n X d_CiteForge_smallOf_0 rfl rfl ?_
  refine go_cSf (st2 := [vi (s_b (p_cap c))]) (r := []) X k_CiteForge_232 (c_isCapital l D (by omega)) rfl rfl (by omega) (Nat.le_of_ble_eq_true rfl) d_CiteForge_smallOf_1 (by omega) (by omega) rfl ?_
  refine go_ifb_eq (tgt := 15) X d_CiteForge_smallOf_4 rfl (fun hq1 => ?_) (fun hq1 => ?_)
  · skip
    refine go_iload_n X d_CiteForge_smallOf_15 rfl rfl ?_
    refine go_iret X d_CiteForge_smallOf_16 rfl ?_ (by omega) (by omega) ?_
    · exact n_nc (by simp only [p_cap, p_sml, p_let, p_dig, p_bl, p_brc, p_wc, p_prn, Bool.or_eq_true, Bool.and_eq_true, Bool.or_eq_false_iff, Bool.and_eq_false_iff, decide_eq_true_eq, decide_eq_false_iff_not] at *; omega)
    · refine ⟨?_, rfl, rfl, rfl⟩
      have e0 : p_low c = c := by unfold p_low; simp only [p_cap, p_sml, p_let, p_dig, p_bl, p_brc, p_wc, p_prn, Bool.or_eq_true, Bool.and_eq_true, Bool.or_eq_false_iff, Bool.and_eq_false_iff, decide_eq_true_eq, decide_eq_false_iff_not] at *; rw [if_neg (by omega)]
      rw [e0]
  · skip
    refine go_iload_n X d_CiteForge_smallOf_7 rfl rfl ?_
    refine go_bipush (v := 32) X d_CiteForge_smallOf_8 (by decide) ?_
    refine go_iadd X d_CiteForge_smallOf_10 ?_
    refine go_i2c X d_CiteForge_smallOf_11 (n_i2c (by simp only [p_cap, p_sml, p_let, p_dig, p_bl, p_brc, p_wc, p_prn, Bool.or_eq_true, Bool.and_eq_true, Bool.or_eq_false_iff, Bool.and_eq_false_iff, decide_eq_true_eq, decide_eq_false_iff_not] at *; omega)) ?_
    refine go_goto (tgt := 16) X d_CiteForge_smallOf_12 rfl ?_
    refine go_iret X d_CiteForge_smallOf_16 rfl ?_ (by omega) (by omega) ?_
    · exact n_nc (by simp only [p_cap, p_sml, p_let, p_dig, p_bl, p_brc, p_wc, p_prn, Bool.or_eq_true, Bool.and_eq_true, Bool.or_eq_false_iff, Bool.and_eq_false_iff, decide_eq_true_eq, decide_eq_false_iff_not] at *; omega)
    · refine ⟨?_, rfl, rfl, rfl⟩
      have e0 : p_low c = c + 32 := by unfold p_low; simp only [p_cap, p_sml, p_let, p_dig, p_bl, p_brc, p_wc, p_prn, Bool.or_eq_true, Bool.and_eq_true, Bool.or_eq_false_iff, Bool.and_eq_false_iff, decide_eq_true_eq, decide_eq_false_iff_not] at *; rw [if_pos (by omega)]
      rw [e0]
set_option maxHeartbeats 4000000 in
set_option maxRecDepth 100000 in
theorem c_capitalOf (l : Launch) (D : va_G) {sh : s_S} {M : s_M} {sz : Int} {c : Int} (hc : 0 ≤ c ∧ c < 65536) : Sp l D y_CiteForge_capitalOf prog_1_method_31_code 1 (some .char) 2 0 0 [vi c] sh M sz (pF (some (vi (p_upp c))) sh M sz) := by
  refine Sp.ofGo (own := "CiteForge") (nm := "capitalOf") (by decide) rfl rfl (Nat.le_of_ble_eq_true rfl) (lv := [(0, vi c)]) rfl ?_
  intro g X
  refine go_iload_n X d_CiteForge_capitalOf_0 rfl rfl ?_
  refine go_cSf (st2 := [vi (s_b (p_sml c))]) (r := []) X k_CiteForge_235 (c_isSmall l D (by omega)) rfl rfl (by omega) (Nat.le_of_ble_eq_true rfl) d_CiteForge_capitalOf_1 (by omega) (by omega) rfl ?_
  refine go_ifb_eq (tgt := 15) X d_CiteForge_capitalOf_4 rfl (fun hq1 => ?_) (fun hq1 => ?_)
  · skip
    refine go_iload_n X d_CiteForge_capitalOf_15 rfl rfl ?_
    refine go_iret X d_CiteForge_capitalOf_16 rfl ?_ (by omega) (by omega) ?_
    · exact n_nc (by simp only [p_cap, p_sml, p_let, p_dig, p_bl, p_brc, p_wc, p_prn, Bool.or_eq_true, Bool.and_eq_true, Bool.or_eq_false_iff, Bool.and_eq_false_iff, decide_eq_true_eq, decide_eq_false_iff_not] at *; omega)
    · refine ⟨?_, rfl, rfl, rfl⟩
      have e0 : p_upp c = c := by unfold p_upp; simp only [p_cap, p_sml, p_let, p_dig, p_bl, p_brc, p_wc, p_prn, Bool.or_eq_true, Bool.and_eq_true, Bool.or_eq_false_iff, Bool.and_eq_false_iff, decide_eq_true_eq, decide_eq_false_iff_not] at *; rw [if_neg (by omega)]
      rw [e0]
  · skip
    refine go_iload_n X d_CiteForge_capitalOf_7 rfl rfl ?_
    refine go_bipush (v := 32) X d_CiteForge_capitalOf_8 (by decide) ?_
    refine go_isub X d_CiteForge_capitalOf_10 ?_
    refine go_i2c X d_CiteForge_capitalOf_11 (n_i2c (by simp only [p_cap, p_sml, p_let, p_dig, p_bl, p_brc, p_wc, p_prn, Bool.or_eq_true, Bool.and_eq_true, Bool.or_eq_false_iff, Bool.and_eq_false_iff, decide_eq_true_eq, decide_eq_false_iff_not] at *; omega)) ?_
    refine go_goto (tgt := 16) X d_CiteForge_capitalOf_12 rfl ?_
    refine go_iret X d_CiteForge_capitalOf_16 rfl ?_ (by omega) (by omega) ?_
    · exact n_nc (by simp only [p_cap, p_sml, p_let, p_dig, p_bl, p_brc, p_wc, p_prn, Bool.or_eq_true, Bool.and_eq_true, Bool.or_eq_false_iff, Bool.and_eq_false_iff, decide_eq_true_eq, decide_eq_false_iff_not] at *; omega)
    · refine ⟨?_, rfl, rfl, rfl⟩
      have e0 : p_upp c = c - 32 := by unfold p_upp; simp only [p_cap, p_sml, p_let, p_dig, p_bl, p_brc, p_wc, p_prn, Bool.or_eq_true, Bool.and_eq_true, Bool.or_eq_false_iff, Bool.and_eq_false_iff, decide_eq_true_eq, decide_eq_false_iff_not] at *; rw [if_pos (by omega)]
      rw [e0]
set_option maxHeartbeats 4000000 in
set_option maxRecDepth 100000 in
theorem c_levelBehind (l : Launch) (D : va_G) {sh : s_S} {M : s_M} {sz : Int} {c : Int} {v : Int} (hv : -2147483648 ≤ v ∧ v < 2147483648) (hc : 0 ≤ c ∧ c < 65536) : Sp l D y_CiteForge_levelBehind prog_1_method_32_code 2 (some .int) 1 0 0 [vi v, vi c] sh M sz (pF (some (vi (p_lev v c))) sh M sz) := by
  refine Sp.ofGo (own := "CiteForge") (nm := "levelBehind") (by decide) rfl rfl (Nat.le_of_ble_eq_true rfl) (lv := [(0, vi v), (1, vi c)]) rfl ?_
  intro g X
  refine go_iload_n X d_CiteForge_levelBehind_0 rfl rfl ?_
  refine go_bipush (v := 123) X d_CiteForge_levelBehind_1 (by decide) ?_
  refine go_icmp_ne (tgt := 10) X d_CiteForge_levelBehind_3 rfl (by omega) (by omega) (fun hq1 => ?_) (fun hq1 => ?_)
  · skip
    refine go_iload_n X d_CiteForge_levelBehind_10 rfl rfl ?_
    refine go_bipush (v := 125) X d_CiteForge_levelBehind_11 (by decide) ?_
    refine go_icmp_ne (tgt := 26) X d_CiteForge_levelBehind_13 rfl (by omega) (by omega) (fun hq2 => ?_) (fun hq2 => ?_)
    · skip
      refine go_iload_n X d_CiteForge_levelBehind_26 rfl rfl ?_
      refine go_iret X d_CiteForge_levelBehind_27 rfl ?_ (by omega) (by omega) ?_
      · rfl
      · refine ⟨?_, rfl, rfl, rfl⟩
        unfold p_lev
        first | rw [if_pos (by omega)] | rw [if_neg (by omega), if_pos (by omega)] | rw [if_neg (by omega), if_neg (by omega)]
    · skip
      refine go_iload_n X d_CiteForge_levelBehind_16 rfl rfl ?_
      refine go_if_le (tgt := 26) X d_CiteForge_levelBehind_17 rfl (by omega) (fun hq3 => ?_) (fun hq3 => ?_)
      · skip
        refine go_iload_n X d_CiteForge_levelBehind_26 rfl rfl ?_
        refine go_iret X d_CiteForge_levelBehind_27 rfl ?_ (by omega) (by omega) ?_
        · rfl
        · refine ⟨?_, rfl, rfl, rfl⟩
          unfold p_lev
          first | rw [if_pos (by omega)] | rw [if_neg (by omega), if_pos (by omega)] | rw [if_neg (by omega), if_neg (by omega)]
      · skip
        refine go_iload_n X d_CiteForge_levelBehind_20 rfl rfl ?_
        refine go_iconst (v := 1) X d_CiteForge_levelBehind_21 ?_
        refine go_isub X d_CiteForge_levelBehind_22 ?_
        refine go_goto (tgt := 27) X d_CiteForge_levelBehind_23 rfl ?_
        refine go_iret X d_CiteForge_levelBehind_27 rfl ?_ (by omega) (by omega) ?_
        · rfl
        · refine ⟨?_, rfl, rfl, rfl⟩
          unfold p_lev
          first | rw [if_pos (by omega)] | rw [if_neg (by omega), if_pos (by omega)] | rw [if_neg (by omega), if_neg (by omega)]
  · skip
    refine go_iload_n X d_CiteForge_levelBehind_6 rfl rfl ?_
    refine go_iconst (v := 1) X d_CiteForge_levelBehind_7 ?_
    refine go_iadd X d_CiteForge_levelBehind_8 ?_
    refine go_iret X d_CiteForge_levelBehind_9 rfl ?_ (by omega) (by omega) ?_
    · rfl
    · refine ⟨?_, rfl, rfl, rfl⟩
      unfold p_lev
      first | rw [if_pos (by omega)] | rw [if_neg (by omega), if_pos (by omega)] | rw [if_neg (by omega), if_neg (by omega)]
set_option maxHeartbeats 4000000 in
set_option maxRecDepth 100000 in
theorem m_within (l : Launch) (D : va_G) {sh : s_S} {M : s_M} {sz : Int} {c : Int} {v u : Int} (hc : -2147483648 ≤ c ∧ c < 2147483648) (hv : -2147483648 ≤ v ∧ v < 2147483648) (hu : -2147483648 ≤ u ∧ u < 2147483648) : Sp l D y_Model_within prog_14_method_4_code 3 (some .boolean) 1 0 0 [vi c, vi v, vi u] sh M sz (pF (some (vi (s_b (decide (v ≤ c ∧ c ≤ u))))) sh M sz) := by
  refine Sp.ofGo (own := "CiteForgeModel") (nm := "within") (by decide) rfl rfl (Nat.le_of_ble_eq_true rfl) (lv := [(0, vi c), (1, vi v), (2, vi u)]) rfl ?_
  intro g X
  refine go_iload_n X d_Model_within_0 rfl rfl ?_
  refine go_iload_n X d_Model_within_1 rfl rfl ?_
  refine go_icmp_lt (tgt := 14) X d_Model_within_2 rfl (by omega) (by omega) (fun hq1 => ?_) (fun hq1 => ?_)
  · skip
    refine go_iconst (v := 0) X d_Model_within_14 ?_
    refine go_iret X d_Model_within_15 rfl ?_ (by omega) (by omega) ?_
    · rfl
    · refine ⟨?_, rfl, rfl, rfl⟩
      have hb : (decide (v ≤ c ∧ c ≤ u)) = false := by simp only [p_cap, p_sml, p_let, p_dig, p_bl, p_brc, p_wc, p_prn, Bool.or_eq_true, Bool.and_eq_true, Bool.or_eq_false_iff, Bool.and_eq_false_iff, decide_eq_true_eq, decide_eq_false_iff_not] at *; omega
      rw [hb]; rfl
  · skip
    refine go_iload_n X d_Model_within_5 rfl rfl ?_
    refine go_iload_n X d_Model_within_6 rfl rfl ?_
    refine go_icmp_gt (tgt := 14) X d_Model_within_7 rfl (by omega) (by omega) (fun hq2 => ?_) (fun hq2 => ?_)
    · skip
      refine go_iconst (v := 0) X d_Model_within_14 ?_
      refine go_iret X d_Model_within_15 rfl ?_ (by omega) (by omega) ?_
      · rfl
      · refine ⟨?_, rfl, rfl, rfl⟩
        have hb : (decide (v ≤ c ∧ c ≤ u)) = false := by simp only [p_cap, p_sml, p_let, p_dig, p_bl, p_brc, p_wc, p_prn, Bool.or_eq_true, Bool.and_eq_true, Bool.or_eq_false_iff, Bool.and_eq_false_iff, decide_eq_true_eq, decide_eq_false_iff_not] at *; omega
        rw [hb]; rfl
    · skip
      refine go_iconst (v := 1) X d_Model_within_10 ?_
      refine go_goto (tgt := 15) X d_Model_within_11 rfl ?_
      refine go_iret X d_Model_within_15 rfl ?_ (by omega) (by omega) ?_
      · rfl
      · refine ⟨?_, rfl, rfl, rfl⟩
        have hb : (decide (v ≤ c ∧ c ≤ u)) = true := by simp only [p_cap, p_sml, p_let, p_dig, p_bl, p_brc, p_wc, p_prn, Bool.or_eq_true, Bool.and_eq_true, Bool.or_eq_false_iff, Bool.and_eq_false_iff, decide_eq_true_eq, decide_eq_false_iff_not] at *; omega
        rw [hb]; rfl
set_option maxHeartbeats 4000000 in
set_option maxRecDepth 100000 in
theorem m_isLetter (l : Launch) (D : va_G) {sh : s_S} {M : s_M} {sz : Int} {c : Int} (hc : -2147483648 ≤ c ∧ c < 2147483648) : Sp l D y_Model_isLetter prog_14_method_10_code 1 (some .boolean) 2 0 0 [vi c] sh M sz (pF (some (vi (s_b (p_let c)))) sh M sz) := by
  refine Sp.ofGo (own := "CiteForgeModel") (nm := "isLetter") (by decide) rfl rfl (Nat.le_of_ble_eq_true rfl) (lv := [(0, vi c)]) rfl ?_
  intro g X
  refine go_iload_n X d_Model_isLetter_0 rfl rfl ?_
  refine go_bipush (v := 97) X d_Model_isLetter_1 (by decide) ?_
  refine go_bipush (v := 122) X d_Model_isLetter_3 (by decide) ?_
  refine go_cSf (st2 := [vi (s_b (decide (97 ≤ c ∧ c ≤ 122)))]) (r := []) X k_Model_103 (m_within l D (by omega) (by omega) (by omega)) rfl rfl (by omega) (Nat.le_of_ble_eq_true rfl) d_Model_isLetter_5 (by omega) (by omega) rfl ?_
  refine go_ifb_ne (tgt := 22) X d_Model_isLetter_8 rfl (fun hq1 => ?_) (fun hq1 => ?_)
  · skip
    refine go_iconst (v := 1) X d_Model_isLetter_22 ?_
    refine go_goto (tgt := 27) X d_Model_isLetter_23 rfl ?_
    refine go_iret X d_Model_isLetter_27 rfl ?_ (by omega) (by omega) ?_
    · rfl
    · refine ⟨?_, rfl, rfl, rfl⟩
      have hb : (p_let c) = true := by simp only [p_cap, p_sml, p_let, p_dig, p_bl, p_brc, p_wc, p_prn, Bool.or_eq_true, Bool.and_eq_true, Bool.or_eq_false_iff, Bool.and_eq_false_iff, decide_eq_true_eq, decide_eq_false_iff_not] at *; omega
      rw [hb]; rfl
  · skip
    refine go_iload_n X d_Model_isLetter_11 rfl rfl ?_
    refine go_bipush (v := 65) X d_Model_isLetter_12 (by decide) ?_
    refine go_bipush (v := 90) X d_Model_isLetter_14 (by decide) ?_
    refine go_cSf (st2 := [vi (s_b (decide (65 ≤ c ∧ c ≤ 90)))]) (r := []) X k_Model_103 (m_within l D (by omega) (by omega) (by omega)) rfl rfl (by omega) (Nat.le_of_ble_eq_true rfl) d_Model_isLetter_16 (by omega) (by omega) rfl ?_
    refine go_ifb_eq (tgt := 26) X d_Model_isLetter_19 rfl (fun hq2 => ?_) (fun hq2 => ?_)
    · skip
      refine go_iconst (v := 0) X d_Model_isLetter_26 ?_
      refine go_iret X d_Model_isLetter_27 rfl ?_ (by omega) (by omega) ?_
      · rfl
      · refine ⟨?_, rfl, rfl, rfl⟩
        have hb : (p_let c) = false := by simp only [p_cap, p_sml, p_let, p_dig, p_bl, p_brc, p_wc, p_prn, Bool.or_eq_true, Bool.and_eq_true, Bool.or_eq_false_iff, Bool.and_eq_false_iff, decide_eq_true_eq, decide_eq_false_iff_not] at *; omega
        rw [hb]; rfl
    · skip
      refine go_iconst (v := 1) X d_Model_isLetter_22 ?_
      refine go_goto (tgt := 27) X d_Model_isLetter_23 rfl ?_
      refine go_iret X d_Model_isLetter_27 rfl ?_ (by omega) (by omega) ?_
      · rfl
      · refine ⟨?_, rfl, rfl, rfl⟩
        have hb : (p_let c) = true := by simp only [p_cap, p_sml, p_let, p_dig, p_bl, p_brc, p_wc, p_prn, Bool.or_eq_true, Bool.and_eq_true, Bool.or_eq_false_iff, Bool.and_eq_false_iff, decide_eq_true_eq, decide_eq_false_iff_not] at *; omega
        rw [hb]; rfl
set_option maxHeartbeats 4000000 in
set_option maxRecDepth 100000 in
theorem m_digit (l : Launch) (D : va_G) {sh : s_S} {M : s_M} {sz : Int} {c : Int} (hc : -2147483648 ≤ c ∧ c < 2147483648) : Sp l D y_Model_digit prog_14_method_11_code 1 (some .boolean) 2 0 0 [vi c] sh M sz (pF (some (vi (s_b (p_dig c)))) sh M sz) := by
  refine Sp.ofGo (own := "CiteForgeModel") (nm := "digit") (by decide) rfl rfl (Nat.le_of_ble_eq_true rfl) (lv := [(0, vi c)]) rfl ?_
  intro g X
  refine go_iload_n X d_Model_digit_0 rfl rfl ?_
  refine go_bipush (v := 48) X d_Model_digit_1 (by decide) ?_
  refine go_bipush (v := 57) X d_Model_digit_3 (by decide) ?_
  refine go_cSf (st2 := [vi (s_b (decide (48 ≤ c ∧ c ≤ 57)))]) (r := []) X k_Model_103 (m_within l D (by omega) (by omega) (by omega)) rfl rfl (by omega) (Nat.le_of_ble_eq_true rfl) d_Model_digit_5 (by omega) (by omega) rfl ?_
  refine go_iret X d_Model_digit_8 rfl ?_ (by omega) (by omega) ?_
  · exact s_b_nar _
  · exact ⟨rfl, rfl, rfl, rfl⟩
set_option maxHeartbeats 4000000 in
set_option maxRecDepth 100000 in
theorem m_isWord (l : Launch) (D : va_G) {sh : s_S} {M : s_M} {sz : Int} {c : Int} (hc : -2147483648 ≤ c ∧ c < 2147483648) : Sp l D y_Model_isWord prog_14_method_14_code 1 (some .boolean) 3 0 0 [vi c] sh M sz (pF (some (vi (s_b (p_wc c)))) sh M sz) := by
  refine Sp.ofGo (own := "CiteForgeModel") (nm := "isWord") (by decide) rfl rfl (Nat.le_of_ble_eq_true rfl) (lv := [(0, vi c)]) rfl ?_
  intro g X
  refine go_iload_n X d_Model_isWord_0 rfl rfl ?_
  refine go_cSf (st2 := [vi (s_b (p_let c))]) (r := []) X k_Model_107 (m_isLetter l D (by omega)) rfl rfl (by omega) (Nat.le_of_ble_eq_true rfl) d_Model_isWord_1 (by omega) (by omega) rfl ?_
  refine go_ifb_ne (tgt := 26) X d_Model_isWord_4 rfl (fun hq1 => ?_) (fun hq1 => ?_)
  · skip
    refine go_iconst (v := 1) X d_Model_isWord_26 ?_
    refine go_goto (tgt := 31) X d_Model_isWord_27 rfl ?_
    refine go_iret X d_Model_isWord_31 rfl ?_ (by omega) (by omega) ?_
    · rfl
    · refine ⟨?_, rfl, rfl, rfl⟩
      have hb : (p_wc c) = true := by simp only [p_cap, p_sml, p_let, p_dig, p_bl, p_brc, p_wc, p_prn, Bool.or_eq_true, Bool.and_eq_true, Bool.or_eq_false_iff, Bool.and_eq_false_iff, decide_eq_true_eq, decide_eq_false_iff_not] at *; omega
      rw [hb]; rfl
  · skip
    refine go_iload_n X d_Model_isWord_7 rfl rfl ?_
    refine go_cSf (st2 := [vi (s_b (p_dig c))]) (r := []) X k_Model_111 (m_digit l D (by omega)) rfl rfl (by omega) (Nat.le_of_ble_eq_true rfl) d_Model_isWord_8 (by omega) (by omega) rfl ?_
    refine go_ifb_ne (tgt := 26) X d_Model_isWord_11 rfl (fun hq2 => ?_) (fun hq2 => ?_)
    · skip
      refine go_iconst (v := 1) X d_Model_isWord_26 ?_
      refine go_goto (tgt := 31) X d_Model_isWord_27 rfl ?_
      refine go_iret X d_Model_isWord_31 rfl ?_ (by omega) (by omega) ?_
      · rfl
      · refine ⟨?_, rfl, rfl, rfl⟩
        have hb : (p_wc c) = true := by simp only [p_cap, p_sml, p_let, p_dig, p_bl, p_brc, p_wc, p_prn, Bool.or_eq_true, Bool.and_eq_true, Bool.or_eq_false_iff, Bool.and_eq_false_iff, decide_eq_true_eq, decide_eq_false_iff_not] at *; omega
        rw [hb]; rfl
    · skip
      refine go_iload_n X d_Model_isWord_14 rfl rfl ?_
      refine go_bipush (v := 58) X d_Model_isWord_15 (by decide) ?_
      refine go_icmp_eq (tgt := 26) X d_Model_isWord_17 rfl (by omega) (by omega) (fun hq3 => ?_) (fun hq3 => ?_)
      · skip
        refine go_iconst (v := 1) X d_Model_isWord_26 ?_
        refine go_goto (tgt := 31) X d_Model_isWord_27 rfl ?_
        refine go_iret X d_Model_isWord_31 rfl ?_ (by omega) (by omega) ?_
        · rfl
        · refine ⟨?_, rfl, rfl, rfl⟩
          have hb : (p_wc c) = true := by simp only [p_cap, p_sml, p_let, p_dig, p_bl, p_brc, p_wc, p_prn, Bool.or_eq_true, Bool.and_eq_true, Bool.or_eq_false_iff, Bool.and_eq_false_iff, decide_eq_true_eq, decide_eq_false_iff_not] at *; omega
          rw [hb]; rfl
      · skip
        refine go_iload_n X d_Model_isWord_20 rfl rfl ?_
        refine go_bipush (v := 45) X d_Model_isWord_21 (by decide) ?_
        refine go_icmp_ne (tgt := 30) X d_Model_isWord_23 rfl (by omega) (by omega) (fun hq4 => ?_) (fun hq4 => ?_)
        · skip
          refine go_iconst (v := 0) X d_Model_isWord_30 ?_
          refine go_iret X d_Model_isWord_31 rfl ?_ (by omega) (by omega) ?_
          · rfl
          · refine ⟨?_, rfl, rfl, rfl⟩
            have hb : (p_wc c) = false := by simp only [p_cap, p_sml, p_let, p_dig, p_bl, p_brc, p_wc, p_prn, Bool.or_eq_true, Bool.and_eq_true, Bool.or_eq_false_iff, Bool.and_eq_false_iff, decide_eq_true_eq, decide_eq_false_iff_not] at *; omega
            rw [hb]; rfl
        · skip
          refine go_iconst (v := 1) X d_Model_isWord_26 ?_
          refine go_goto (tgt := 31) X d_Model_isWord_27 rfl ?_
          refine go_iret X d_Model_isWord_31 rfl ?_ (by omega) (by omega) ?_
          · rfl
          · refine ⟨?_, rfl, rfl, rfl⟩
            have hb : (p_wc c) = true := by simp only [p_cap, p_sml, p_let, p_dig, p_bl, p_brc, p_wc, p_prn, Bool.or_eq_true, Bool.and_eq_true, Bool.or_eq_false_iff, Bool.and_eq_false_iff, decide_eq_true_eq, decide_eq_false_iff_not] at *; omega
            rw [hb]; rfl
set_option maxHeartbeats 4000000 in
set_option maxRecDepth 100000 in
theorem m_small (l : Launch) (D : va_G) {sh : s_S} {M : s_M} {sz : Int} {c : Int} (hc : -2147483648 ≤ c ∧ c < 2147483648) : Sp l D y_Model_small prog_14_method_12_code 1 (some .int) 2 0 0 [vi c] sh M sz (pF (some (vi (p_low c))) sh M sz) := by
  refine Sp.ofGo (own := "CiteForgeModel") (nm := "small") (by decide) rfl rfl (Nat.le_of_ble_eq_true rfl) (lv := [(0, vi c)]) rfl ?_
  intro g X
  refine go_iload_n X d_Model_small_0 rfl rfl ?_
  refine go_bipush (v := 65) X d_Model_small_1 (by decide) ?_
  refine go_bipush (v := 90) X d_Model_small_3 (by decide) ?_
  refine go_cSf (st2 := [vi (s_b (decide (65 ≤ c ∧ c ≤ 90)))]) (r := []) X k_Model_103 (m_within l D (by omega) (by omega) (by omega)) rfl rfl (by omega) (Nat.le_of_ble_eq_true rfl) d_Model_small_5 (by omega) (by omega) rfl ?_
  refine go_ifb_eq (tgt := 18) X d_Model_small_8 rfl (fun hq1 => ?_) (fun hq1 => ?_)
  · skip
    refine go_iload_n X d_Model_small_18 rfl rfl ?_
    refine go_iret X d_Model_small_19 rfl ?_ (by omega) (by omega) ?_
    · rfl
    · refine ⟨?_, rfl, rfl, rfl⟩
      have e0 : p_low c = c := by unfold p_low; simp only [p_cap, p_sml, p_let, p_dig, p_bl, p_brc, p_wc, p_prn, Bool.or_eq_true, Bool.and_eq_true, Bool.or_eq_false_iff, Bool.and_eq_false_iff, decide_eq_true_eq, decide_eq_false_iff_not] at *; rw [if_neg (by omega)]
      rw [e0]
  · skip
    refine go_iload_n X d_Model_small_11 rfl rfl ?_
    refine go_bipush (v := 32) X d_Model_small_12 (by decide) ?_
    refine go_iadd X d_Model_small_14 ?_
    refine go_goto (tgt := 19) X d_Model_small_15 rfl ?_
    refine go_iret X d_Model_small_19 rfl ?_ (by omega) (by omega) ?_
    · rfl
    · refine ⟨?_, rfl, rfl, rfl⟩
      have e0 : p_low c = c + 32 := by unfold p_low; simp only [p_cap, p_sml, p_let, p_dig, p_bl, p_brc, p_wc, p_prn, Bool.or_eq_true, Bool.and_eq_true, Bool.or_eq_false_iff, Bool.and_eq_false_iff, decide_eq_true_eq, decide_eq_false_iff_not] at *; rw [if_pos (by omega)]
      rw [e0]
set_option maxHeartbeats 4000000 in
set_option maxRecDepth 100000 in
theorem m_large (l : Launch) (D : va_G) {sh : s_S} {M : s_M} {sz : Int} {c : Int} (hc : -2147483648 ≤ c ∧ c < 2147483648) : Sp l D y_Model_large prog_14_method_13_code 1 (some .int) 2 0 0 [vi c] sh M sz (pF (some (vi (p_upp c))) sh M sz) := by
  refine Sp.ofGo (own := "CiteForgeModel") (nm := "large") (by decide) rfl rfl (Nat.le_of_ble_eq_true rfl) (lv := [(0, vi c)]) rfl ?_
  intro g X
  refine go_iload_n X d_Model_large_0 rfl rfl ?_
  refine go_bipush (v := 97) X d_Model_large_1 (by decide) ?_
  refine go_bipush (v := 122) X d_Model_large_3 (by decide) ?_
  refine go_cSf (st2 := [vi (s_b (decide (97 ≤ c ∧ c ≤ 122)))]) (r := []) X k_Model_103 (m_within l D (by omega) (by omega) (by omega)) rfl rfl (by omega) (Nat.le_of_ble_eq_true rfl) d_Model_large_5 (by omega) (by omega) rfl ?_
  refine go_ifb_eq (tgt := 18) X d_Model_large_8 rfl (fun hq1 => ?_) (fun hq1 => ?_)
  · skip
    refine go_iload_n X d_Model_large_18 rfl rfl ?_
    refine go_iret X d_Model_large_19 rfl ?_ (by omega) (by omega) ?_
    · rfl
    · refine ⟨?_, rfl, rfl, rfl⟩
      have e0 : p_upp c = c := by unfold p_upp; simp only [p_cap, p_sml, p_let, p_dig, p_bl, p_brc, p_wc, p_prn, Bool.or_eq_true, Bool.and_eq_true, Bool.or_eq_false_iff, Bool.and_eq_false_iff, decide_eq_true_eq, decide_eq_false_iff_not] at *; rw [if_neg (by omega)]
      rw [e0]
  · skip
    refine go_iload_n X d_Model_large_11 rfl rfl ?_
    refine go_bipush (v := 32) X d_Model_large_12 (by decide) ?_
    refine go_isub X d_Model_large_14 ?_
    refine go_goto (tgt := 19) X d_Model_large_15 rfl ?_
    refine go_iret X d_Model_large_19 rfl ?_ (by omega) (by omega) ?_
    · rfl
    · refine ⟨?_, rfl, rfl, rfl⟩
      have e0 : p_upp c = c - 32 := by unfold p_upp; simp only [p_cap, p_sml, p_let, p_dig, p_bl, p_brc, p_wc, p_prn, Bool.or_eq_true, Bool.and_eq_true, Bool.or_eq_false_iff, Bool.and_eq_false_iff, decide_eq_true_eq, decide_eq_false_iff_not] at *; rw [if_pos (by omega)]
      rw [e0]
