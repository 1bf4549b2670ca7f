/-! the short hoses of an hour, one of them stretching -/
theorem gBurst_oth {z : xV} {i k f : Nat} (hi : i < 4) (hk : k < 4) (hf : f < 6) (hne : k ≠ i ∨ f = 0) : gBurst z k (hz i f) = z (hz i f) := by
  unfold gBurst
  dsimp only
  split
  · rw [upd_n (by simp only [hz]; omega), upd_n (by simp only [hz]; omega)]
  rename_i hg
  have htn : tn (z (hz k 2)) < 4 := isG_tn (by simpa using hg)
  generalize tn (z (hz k 2)) = g at htn ⊢
  rw [upd_n (by simp only [hz]; omega), upd_n (by simp only [hz]; omega), upd_n (by simp only [hz]; omega), upd_n (by simp only [tz, hz]; omega), upd_n (by simp only [hz]; omega), upd_n (by simp only [hz]; omega)]
theorem gBurst_3 {z : xV} {i : Nat} (hi : i < 4) : gBurst z i (hz i 3) = 1 := by
  unfold gBurst
  dsimp only
  split
  · rw [upd_n (by simp only [hz]; omega), upd_s]
  rename_i hg
  have htn : tn (z (hz i 2)) < 4 := isG_tn (by simpa using hg)
  generalize tn (z (hz i 2)) = g at htn ⊢
  rw [upd_n (by simp only [hz]; omega), upd_n (by simp only [hz]; omega), upd_n (by simp only [hz]; omega), upd_n (by simp only [tz, hz]; omega), upd_n (by simp only [hz]; omega), upd_s]
theorem gShort_oth {z : xV} {i k f : Nat} (hi : i < 4) (hk : k < 4) (hf : f < 6) (hne : k ≠ i) : gShort z k (hz i f) = z (hz i f) := by
  unfold gShort
  split
  · rfl
  split
  · exact gBurst_oth hi hk hf (Or.inl hne)
  · rw [upd_n (by simp only [hz]; omega)]
theorem Ex.shorts {i : Nat} {y m : xV} (h : Ex i y m) (hi : i < 4) (hy : ¬ y (80 + i) = 0) (hm : m (80 + i) = 0) (hle : y (hz i 0) ≤ m (hz i 0)) (hb : m (hz i 3) = 0) : ∀ k, k ≤ 4 →
    (Ex i (gShorts y k) (gShorts m k) ∧ gShorts y k (hz i 0) ≤ m (hz i 0) ∧ gShorts m k (hz i 0) = m (hz i 0) ∧ gShorts m k (hz i 3) = 0) ∨ (i < k ∧ ¬ gShorts m k (hz i 3) = 0 ∧ m (hz i 0) < gShorts y k (hz i 0)) := by
  intro k
  induction k with
  | zero => intro _; exact Or.inl ⟨h, hle, rfl, hb⟩
  | succ k ih =>
    intro hk
    rw [gShorts, gShorts]
    have y8 : ¬ gShorts y k (80 + i) = 0 := by rw [gShorts_o (by omega) k (by omega)]; exact hy
    have m8 : gShorts m k (80 + i) = 0 := by rw [gShorts_o (by omega) k (by omega)]; exact hm
    rcases ih (by omega) with ⟨a1, a2, a3, a4⟩ | ⟨b1, b2, b3⟩
    · by_cases hki : k = i
      · subst hki
        by_cases hc : isG (gShorts m k (hz k 2)) = false ∨ cHeight (gShorts m k) (cDraught (gShorts m k) 0) (gShorts m k 6) ≤ gShorts m k (hz k 0)
        · obtain ⟨c1, c2, c3, c4⟩ := a1.ownA hi y8 (by rw [a3]; exact a2) hc
          rw [c1]
          exact Or.inl ⟨c2, by rw [a3] at c3; exact c3, a3, a4⟩
        · have g1 : isG (gShorts m k (hz k 2)) = true := by
            cases q : isG (gShorts m k (hz k 2))
            · exact absurd (Or.inl q) hc
            · rfl
          obtain ⟨c1, c2⟩ := a1.ownB hi y8 m8 (by rw [a3]; exact a2) g1 (Int32.not_le.mp (fun q => hc (Or.inr q)))
          rw [c1]
          exact Or.inr ⟨by omega, by rw [gBurst_3 hi]; decide, by rw [a3] at c2; exact c2⟩
      · exact Or.inl ⟨a1.short hi (by omega) hki, by rw [gShort_oth hi (by omega) (by decide) hki]; exact a2, by rw [gShort_oth hi (by omega) (by decide) hki]; exact a3, by rw [gShort_oth hi (by omega) (by decide) hki]; exact a4⟩
    · have hki : k ≠ i := by omega
      exact Or.inr ⟨by omega, by rw [gShort_oth hi (by omega) (by decide) hki]; exact b2, by rw [gShort_oth hi (by omega) (by decide) hki]; exact b3⟩
