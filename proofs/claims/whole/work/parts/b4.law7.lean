/-! The class and the reference as they are made stand alike. -/
theorem LR.zero {sh : s_S} {M : s_M} {o : Int} (hc : cfz sh M o) (hm : mks sh M (o + 247) mL) (hq : sh (o + 276) = some (.inr (.long, 1))) : LR sh M (o + 277) o 0 := by
  obtain ⟨⟨c1, c2, c3, c4, c5, c6, c7, c8, c9, c10⟩, ⟨p1, p2, p3, p4⟩, hn⟩ := hc
  obtain ⟨t1, t2, t3, v1, v2⟩ := c10
  have h0 : 0 ≤ o := c1.2.2.2.2.2.2.2.2
  rw [show o + 225 + 10 = o + 235 by omega] at t1
  rw [show o + 225 + 12 = o + 237 by omega] at t2
  rw [show o + 225 + 14 = o + 239 by omega] at t3
  rw [show o + 225 + 16 = o + 241 by omega] at v1
  rw [show o + 225 + 19 = o + 244 by omega] at v2
  rw [show o + 225 + 1 = o + 226 by omega] at p1 p2 p3 p4
  have hcw : cwd sh M (o + 277) o (((fun _ => 0), 0, fun _ => (0, 0, [])), ((fun _ => 0), fun _ => sen0), (0, [], fun _ => []), M (o + 225) 16, (M (o + 226), M (o + 226 + 1), M (o + 226 + 2), M (o + 226 + 3), M (o + 226 + 4))) (-1) 0 (fun _ => 0) (fun _ => 0) (fun _ => 0) 0 [] (fun _ => 0) (fun _ => []) [] 0 0 (fun _ => 0) (fun _ => 0) := by
    refine ⟨c1, ⟨[], [], [], (0, 0, []), (0, 0, []), ⟨c2, c3⟩, c7, c9, t1, t2, t3, v1, v2, ⟨hn, rfl⟩, c4, c8, ⟨fun _ => 0, fun i i0 i1 => absurd i1 (by show ¬ i < 0; omega)⟩, ⟨p1, rfl, rfl, rfl, rfl, rfl⟩, ⟨fun i => ?_, fun j => ?_⟩, h0, by omega⟩, c5, c6, by decide⟩
    · show 0 ≤ M (o + 226 + 3) i ∧ M (o + 226 + 3) i ≤ 1
      rw [p4]
      exact (by decide : (0 : Int) ≤ 0 ∧ (0 : Int) ≤ 1)
    · show (0 ≤ M (o + 226 + 1) j ∧ M (o + 226 + 1) j ≤ 1000) ∧ 0 ≤ M (o + 226 + 2) j ∧ M (o + 226 + 2) j ≤ 1000
      rw [p2, p3]
      exact (by decide : ((0 : Int) ≤ 0 ∧ (0 : Int) ≤ 1000) ∧ (0 : Int) ≤ 0 ∧ (0 : Int) ≤ 1000)
  obtain ⟨S, hS⟩ : ∃ S : s_M, S = fun k j => if k = 0 then M (o + 247) j else 0 := ⟨_, rfl⟩
  have s0 : ∀ j : Int, S 0 j = M (o + 247) j := fun j => by rw [hS]; exact if_pos rfl
  have sn : ∀ k j : Int, k ≠ 0 → S k j = 0 := fun k j z => by rw [hS]; exact if_neg z
  have hz : ∀ f : Int, mL.all (fun q => q.2.2.1 != f) = true → m_f0 f = 0 → S 0 f = 0 := fun f h1 h2 => (s0 f).trans (hm.zero h1 h2)
  have hmq : mq sh M M (o + 247) S := by
    refine ⟨hm.mds, fun k k0 k1 => ?_, fun k j => ?_, fun _ _ => rfl⟩
    · by_cases c : k = 0
      · rw [c, Int.add_zero]
        funext j
        exact (s0 j).symm
      · have hlen : mL.length = 28 := rfl
        have hj : (k - 1).toNat < mL.length := by omega
        obtain ⟨e1, -, e3, -⟩ := hm.2.2.1 (k - 1).toNat _ (List.getElem?_eq_getElem hj)
        rw [e1, show o + 247 + (((k - 1).toNat : Int) + 1) = o + 247 + k by omega] at e3
        rw [e3]
        funext j
        exact (sn k j c).symm
    · unfold rgk
      by_cases c : k = 0
      · rw [c, if_neg (by decide)]
        split
        · trivial
        · rename_i hj
          have hj0 : ¬ (j = 1 ∨ j = 3 ∨ j = 4 ∨ j = 5 ∨ j = 7 ∨ j = 8 ∨ j = 9 ∨ j = 10 ∨ j = 12 ∨ j = 14 ∨ j = 16 ∨ j = 22 ∨ j = 23 ∨ j = 24 ∨ j = 25 ∨ j = 27 ∨ j = 28 ∨ j = 33 ∨ j = 34 ∨ j = 35 ∨ j = 36 ∨ j = 39 ∨ j = 40 ∨ j = 41 ∨ j = 42 ∨ j = 46 ∨ j = 47 ∨ j = 48) := fun z => hj ⟨rfl, z⟩
          have hz0 : S 0 j = 0 := by
            refine (s0 j).trans ?_
            have h4 := hm.2.2.2 j (fun q hq e => hj0 ?_)
            · rw [h4]
              unfold m_f0
              exact if_neg (fun z => hj0 (by omega))
            · simp only [mL, List.mem_cons, List.not_mem_nil, or_false] at hq
              rcases hq with rfl | rfl | rfl | rfl | rfl | rfl | rfl | rfl | rfl | rfl | rfl | rfl | rfl | rfl | rfl | rfl | rfl | rfl | rfl | rfl | rfl | rfl | rfl | rfl | rfl | rfl | rfl | rfl
              all_goals (simp at e; omega)
          rw [hz0]
          split
          · decide
          · decide
      · rw [sn k j c]
        split
        · decide
        · rw [if_neg (fun z => c z.1), if_neg (fun z => c z.1)]
          decide
  have hcp : cpl S (fun _ => []) (((fun _ => 0), 0, fun _ => (0, 0, [])), ((fun _ => 0), fun _ => sen0), (0, [], fun _ => []), M (o + 225) 16, (M (o + 226), M (o + 226 + 1), M (o + 226 + 2), M (o + 226 + 3), M (o + 226 + 4))) 0 (fun _ => 0) (fun _ => 0) (fun _ => 0) [] 0 0 (fun _ => 0) (fun _ => 0) := by
    refine ⟨⟨⟨fun k k0 k1 => ⟨sn 3 k (by decide), by show (0 : Nat) ≤ 60; decide, fun i i0 i1 => absurd i1 (by show ¬ i < ((0 : Nat) : Int); omega)⟩, fun i i0 i1 => (sn 1 i (by decide)).trans rfl, hz 26 (by decide) (by decide), by show (0 : Int) ≤ 0 ∧ (0 : Int) ≤ 12; decide, fun i i0 i1 => absurd i1 (by show ¬ i < 0; omega)⟩, ⟨hz 6 (by decide) (by decide), by decide, fun i i0 i1 => absurd i1 (by omega), fun i j i0 i1 => absurd i1 (by omega)⟩, fun g g0 g1 => ⟨sn 15 g (by decide), (by decide : rI 0)⟩, ⟨hz 44 (by decide) (by decide), by show (0 : Int) ≤ 0; decide, hz 45 (by decide) (by decide), by show (0 : Nat) ≤ 180; decide, fun i i0 i1 => absurd i1 (by show ¬ i < ((0 : Nat) : Int); omega), fun i i0 i1 => absurd i1 (by show ¬ i < 0; omega)⟩, fun i i0 i1 => absurd i1 (by omega)⟩, ⟨fun _ _ _ => rfl, fun f f0 f1 => ⟨sn 12 f (by decide), (by decide : (0 : Int) ≤ 0 ∧ (0 : Int) ≤ 24), fun p p0 p1 => absurd p1 (by show ¬ p < 0; omega)⟩⟩, ⟨hz 2 (by decide) (by decide), by show (0 : Nat) ≤ 320; decide, fun i i0 i1 => absurd i1 (by show ¬ i < ((0 : Nat) : Int); omega)⟩, ⟨hz 13 (by decide) (by decide), by decide, fun i i0 i1 => absurd i1 (by omega), fun i j i0 i1 => absurd i1 (by omega)⟩, ⟨hz 15 (by decide) (by decide), by decide, fun i i0 i1 => absurd i1 (by omega), fun i j i0 i1 => absurd i1 (by omega)⟩⟩
  exact LR.mk hcw hmq hcp ⟨fun _ => (by decide : (0 : Int) ≤ 0 ∧ (0 : Int) < 30), fun _ => (by decide : rL 0), fun _ h => absurd h (by decide : ¬ (13 : Int) ≤ 0), fun _ _ _ => (by decide : (0 : Int) ≤ 0 ∧ (0 : Int) ≤ 24)⟩ hq (by omega) rfl
