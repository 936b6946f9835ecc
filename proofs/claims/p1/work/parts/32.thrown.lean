theorem x_in {ws : List Cond} (h : ws.all (fun w => (decide (w ∈ tables_1) && (goodWord w || s_thr w)) || decide (w ∈ zAll)) = true) : ∀ w ∈ ws, w ∈ wAll ∨ w ∈ tAll ∨ w ∈ zAll := fun w hw => by
  have h1 := List.all_eq_true.mp h w hw
  rw [Bool.or_eq_true, Bool.and_eq_true, Bool.or_eq_true] at h1
  rcases h1 with ⟨h2, h3 | h3⟩ | h3
  · exact Or.inl (List.mem_filter.mpr ⟨List.mem_append_right _ (of_decide_eq_true h2), h3⟩)
  · exact Or.inr (Or.inl (List.mem_filter.mpr ⟨of_decide_eq_true h2, h3⟩))
  · exact Or.inr (Or.inr (of_decide_eq_true h3))
theorem x_K_IA : x_K "java/lang/IllegalArgumentException" 65 67 := ⟨by decide +kernel, x_in (by decide +kernel), w_of3 145 (by decide +kernel) rfl, w_of3 146 (by decide +kernel) rfl, w_of1 16 (by decide +kernel) rfl⟩
theorem x_K_IS : x_K "java/lang/IllegalStateException" 72 74 := ⟨by decide +kernel, x_in (by decide +kernel), w_of3 214 (by decide +kernel) rfl, w_of3 215 (by decide +kernel) rfl, w_of1 17 (by decide +kernel) rfl⟩
theorem x_K_IOOB : x_K "java/lang/IndexOutOfBoundsException" 130 132 := ⟨by decide +kernel, x_in (by decide +kernel), w_of4 63 (by decide +kernel) rfl, w_of4 64 (by decide +kernel) rfl, w_of1 20 (by decide +kernel) rfl⟩
theorem x_K_UO : x_K "java/lang/UnsupportedOperationException" 182 184 := ⟨by decide +kernel, x_in (by decide +kernel), w_of5 193 (by decide +kernel) rfl, w_of5 194 (by decide +kernel) rfl, w_of1 23 (by decide +kernel) rfl⟩
theorem x_K_NSE : x_K "java/util/NoSuchElementException" 150 152 := ⟨by decide +kernel, x_in (by decide +kernel), w_of4 96 (by decide +kernel) rfl, w_of4 97 (by decide +kernel) rfl, w_of1 21 (by decide +kernel) rfl⟩
