theorem rdw.str {sh : s_S} {M M' : s_M} {p s w j : Int} {V : Int → Int} {t : List Int} {W : Int → Int} {Y : Int → List Int} {v y : List Int} (h : rdw sh M p s w V t W Y v) (hj : 0 ≤ j ∧ j < 8) (ht : tv sh M' (p + 4 + 1 + 2 * j) 60 y) (hf : fr (fun z => z = p + 4 + 1 + 2 * j ∨ z = p + 4 + 1 + 2 * j + 1) M M') : rdw sh M' p s w V t W (lset Y j y) v := by
  obtain ⟨q1, q2, q3, q4, q5, q6, q7, q8, q9, q10, q11, q12⟩ := h
  exact ⟨q1, q2, q3, q4, (hf p (by omega)).trans q5, q6, q7, q8.mv (fun z z1 z2 => ⟨rfl, hf z (by omega)⟩), (hf (p + 3) (by omega)).trans q9, q10, q11.set hj ht (fun z z1 z2 z3 => hf z (by omega)), q12.mv (fun z z1 z2 => ⟨rfl, hf z (by omega)⟩)⟩
theorem rdw.wrd {sh : s_S} {M : s_M} {p s w j x : Int} {V : Int → Int} {t : List Int} {W : Int → Int} {Y : Int → List Int} {v : List Int} (h : rdw sh M p s w V t W Y v) (hx : rL x) : rdw sh (m_s M (p + 3) j x) p s w V t (rset W j x) Y v := by
  obtain ⟨q1, q2, q3, q4, q5, q6, q7, q8, q9, q10, q11, q12⟩ := h
  refine ⟨q1, q2, q3, q4, (m_s_a (by omega)).trans q5, q6, q7, q8.mv (as_set (by omega)), row_set q9, fun i => ?_, q11.mv (as_set (by omega)), q12.mv (as_set (by omega))⟩
  unfold rset
  split
  · exact hx
  · exact q10 i
