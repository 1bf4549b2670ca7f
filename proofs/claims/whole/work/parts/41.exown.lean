/-! the hose that stretches, in an hour -/
theorem Ex.ownA {i : Nat} {y m : xV} (h : Ex i y m) (hi : i < 4) (hy : ¬ y (80 + i) = 0) (hle : y (hz i 0) ≤ m (hz i 0)) (hc : isG (m (hz i 2)) = false ∨ cHeight m (cDraught m 0) (m 6) ≤ m (hz i 0)) : gShort m i = m ∧ Ex i (gShort y i) m ∧ gShort y i (hz i 0) ≤ m (hz i 0) ∧ gShort y i (80 + i) = y (80 + i) := by
  refine ⟨by unfold gShort; rw [if_pos hc], ?_⟩
  unfold gShort
  rw [h.f hi hi (f := 2) (by decide) (Or.inr (by decide)), h.height hi]
  by_cases c : isG (m (hz i 2)) = false ∨ cHeight m (cDraught m 0) (m 6) ≤ y (hz i 0)
  · rw [if_pos c]; exact ⟨h, hle, rfl⟩
  rw [if_neg c, if_neg hy]
  have hH : cHeight m (cDraught m 0) (m 6) ≤ m (hz i 0) := hc.resolve_left (fun q => c (Or.inl q))
  refine ⟨fun k hk h1 h2 => ?_, by rw [upd_s]; exact hH, by rw [upd_n (by simp only [hz]; omega)]⟩
  rw [upd_n h1]; exact h k hk h1 h2
theorem Ex.ownB {i : Nat} {y m : xV} (h : Ex i y m) (hi : i < 4) (hy : ¬ y (80 + i) = 0) (hm : m (80 + i) = 0) (hle : y (hz i 0) ≤ m (hz i 0)) (hg : isG (m (hz i 2)) = true) (hc : m (hz i 0) < cHeight m (cDraught m 0) (m 6)) : gShort m i = gBurst m i ∧ m (hz i 0) < gShort y i (hz i 0) := by
  have n1 : ¬ (isG (m (hz i 2)) = false ∨ cHeight m (cDraught m 0) (m 6) ≤ m (hz i 0)) := by
    rintro (q | q)
    · rw [hg] at q; cases q
    · exact Int32.not_lt.mpr q hc
  refine ⟨by unfold gShort; rw [if_neg n1, if_pos hm], ?_⟩
  unfold gShort
  rw [h.f hi hi (f := 2) (by decide) (Or.inr (by decide)), h.height hi]
  have n2 : ¬ (isG (m (hz i 2)) = false ∨ cHeight m (cDraught m 0) (m 6) ≤ y (hz i 0)) := by
    rintro (q | q)
    · rw [hg] at q; cases q
    · exact n1 (Or.inr (Int32.le_trans q hle))
  rw [if_neg n2, if_neg hy, upd_s]
  exact hc
