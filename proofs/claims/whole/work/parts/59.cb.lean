/-! a connected hose is not burst -/
def CB (z : xV) : Prop := ∀ i, i < 4 → isG (z (hz i 2)) = true → z (hz i 3) = 0
theorem CB.cg {z w : xV} (h : CB z) (e : ∀ i, i < 4 → w (hz i 2) = z (hz i 2) ∧ w (hz i 3) = z (hz i 3)) : CB w := fun i hi hg => by
  rw [(e i hi).2]
  rw [(e i hi).1] at hg
  exact h i hi hg
theorem gBurst_2 {z : xV} {i : Nat} (hi : i < 4) : gBurst z i (hz i 2) = -100006 := by
  unfold gBurst
  dsimp only
  split
  · rw [upd_s]
  rename_i hg
  have htn : tn (z (hz i 2)) < 4 := isG_tn (by simpa using hg)
  generalize tn (z (hz i 2)) = g at htn ⊢
  rw [upd_n (by simp only [hz]; omega), upd_n (by simp only [hz]; omega), upd_n (by simp only [hz]; omega), upd_n (by simp only [tz, hz]; omega), upd_s]
theorem CB.short {z : xV} (h : CB z) {k : Nat} (hk : k < 4) : CB (gShort z k) := by
  intro i hi hg
  by_cases e : k = i
  · subst e
    unfold gShort at hg ⊢
    by_cases c1 : isG (z (hz k 2)) = false ∨ cHeight z (cDraught z 0) (z 6) ≤ z (hz k 0)
    · rw [if_pos c1] at hg ⊢; exact h k hi hg
    rw [if_neg c1] at hg ⊢
    by_cases c2 : z (80 + k) = 0
    · rw [if_pos c2, gBurst_2 hi] at hg
      exact absurd hg (by decide)
    · rw [if_neg c2, upd_n (by simp only [hz]; omega)] at hg
      rw [if_neg c2, upd_n (by simp only [hz]; omega)]
      exact h k hi hg
  · rw [gShort_oth hi hk (by decide) e] at hg ⊢
    exact h i hi hg
theorem CB.shorts {z : xV} (h : CB z) : ∀ k, k ≤ 4 → CB (gShorts z k) := by
  intro k
  induction k with
  | zero => intro _; exact h
  | succ k ih => intro hk; rw [gShorts]; exact (ih (by omega)).short (by omega)
theorem CB.bursts {z : xV} (h : CB z) : CB (gBursts z) := by
  unfold gBursts
  split
  · exact h
  · exact h.shorts 4 (by decide)
theorem CB.hour {z : xV} (h : CB z) : CB (gHour z).2 := by
  have h1 : CB (gTear (upd z 6 (z 6 + 1))) := h.cg (fun i hi => ⟨by rw [gTear_o (by simp only [hz]; omega), upd_n (by simp only [hz]; omega)], by rw [gTear_o (by simp only [hz]; omega), upd_n (by simp only [hz]; omega)]⟩)
  refine h1.bursts.cg (fun i hi => ⟨?_, ?_⟩)
  · show upd _ 11 _ (hz i 2) = _
    rw [upd_n (by simp only [hz]; omega), gMoveU_o (Or.inr (Or.inr ⟨i, hi, Or.inr (Or.inl rfl)⟩))]
  · show upd _ 11 _ (hz i 3) = _
    rw [upd_n (by simp only [hz]; omega), gMoveU_o (Or.inr (Or.inr ⟨i, hi, Or.inr (Or.inr rfl)⟩))]
theorem CB.hours {z : xV} (h : CB z) : ∀ k, CB (gHours z k).2 := by
  intro k
  induction k with
  | zero => exact h
  | succ k ih => exact ih.hour
def mJ (z : xV) : Prop := IV z ∧ (∀ i, i < 4 → z (80 + i) = 0) ∧ (∃ hn, hn ≤ 9999 ∧ z 6 = nI hn) ∧ CB z
theorem mJ.inv {z : xV} (h : mJ z) : mInv z := ⟨h.1, h.2.1, h.2.2.1⟩
theorem mJ.cg {z w : xV} (h : mJ z) (e : ∀ k, k < 84 → w k = z k) : mJ w := by
  obtain ⟨h1, h2, ⟨hn, h3, h4⟩, h5⟩ := h
  exact ⟨h1.cg (fun k hk => e k (by omega)), fun i hi => by rw [e _ (by omega)]; exact h2 i hi, ⟨hn, h3, by rw [e 6 (by decide)]; exact h4⟩, h5.cg (fun i hi => ⟨e _ (by simp only [hz]; omega), e _ (by simp only [hz]; omega)⟩)⟩
