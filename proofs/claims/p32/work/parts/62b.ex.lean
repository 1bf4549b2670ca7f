theorem IV.cg {a b : xV} (e : ∀ k, k < 80 → b k = a k) (h : IV a) : IV b := by
  obtain ⟨⟨a0, a1, a2, a3, a4, a5⟩, a8, a12, a13, a7, aS, aH, aT⟩ := h
  refine ⟨⟨by rw [e 0 (by omega)]; exact a0, by rw [e 1 (by omega)]; exact a1, by rw [e 2 (by omega)]; exact a2, by rw [e 3 (by omega)]; exact a3, by rw [e 4 (by omega)]; exact a4, by rw [e 5 (by omega)]; exact a5⟩, by rw [e 8 (by omega)]; exact a8, by rw [e 12 (by omega)]; exact a12, by rw [e 13 (by omega)]; exact a13, by rw [e 7 (by omega)]; exact a7, fun g hg => by rw [e _ (by omega)]; exact aS g hg, fun i hi => ?_, fun p hp hl g hg => ?_⟩
  · rw [e (hz i 0) (by simp only [hz]; omega), e (hz i 1) (by simp only [hz]; omega), e (hz i 2) (by simp only [hz]; omega), e (hz i 3) (by simp only [hz]; omega), e 13 (by omega)]
    exact aH i hi
  · rw [e _ (by simp only [tz]; omega)]
    refine aT p hp ?_ g hg
    unfold live at hl ⊢
    rw [e 12 (by omega), e 13 (by omega)] at hl
    exact hl
theorem gBursts_iv {z : xV} (h : IV z) : gShorts z 4 = gBursts z := by
  unfold gBursts
  split
  · rename_i h0
    have hn : ∀ i, i < 4 → isG (z (hz i 2)) = false := by
      intro i hi
      cases q : isG (z (hz i 2))
      · rfl
      · have := (h.2.2.2.2.2.2.1 i hi).2.2.2.2 q
        rw [h0] at this; revert this; decide
    have hs : ∀ k, k ≤ 4 → gShorts z k = z := by
      intro k
      induction k with
      | zero => intro _; rfl
      | succ k ih =>
        intro hk
        rw [gShorts, ih (by omega)]
        unfold gShort
        rw [if_pos (Or.inl (hn k (by omega)))]
    exact hs 4 (by decide)
  · rfl
theorem hz_lt {i f : Nat} (hi : i < 4) (hf : f < 6) : hz i f < 50 := by simp only [hz]; omega
/-! rows that differ in one hose's reach only -/
def Ex (i : Nat) (y m : xV) : Prop := ∀ k, k < 84 → k ≠ hz i 0 → k ≠ 80 + i → y k = m k
theorem Ex.l {i : Nat} {y m : xV} (h : Ex i y m) (hi : i < 4) {k : Nat} (hk : k < 26 ∨ (50 ≤ k ∧ k < 80)) : y k = m k := h k (by omega) (by simp only [hz]; omega) (by omega)
theorem Ex.f {i : Nat} {y m : xV} (h : Ex i y m) (hi : i < 4) {j f : Nat} (hj : j < 4) (hf : f < 6) (hne : j ≠ i ∨ f ≠ 0) : y (hz j f) = m (hz j f) := h _ (by simp only [hz]; omega) (by simp only [hz]; omega) (by simp only [hz]; omega)
theorem Ex.up {i : Nat} {y m : xV} (h : Ex i y m) {k : Nat} {v : Int32} : Ex i (upd y k v) (upd m k v) := fun j hj h1 h2 => upd_eq2 (h j hj h1 h2)
theorem Ex.tide {i : Nat} {y m : xV} (h : Ex i y m) (hi : i < 4) (t : Int32) : cTide y t = cTide m t := by
  unfold cTide
  rw [h.l hi (k := 1) (Or.inl (by decide))]
theorem tz_r {p f : Nat} (hp : p < 6) (hf : f < 5) : 50 ≤ tz p f ∧ tz p f < 80 := by simp only [tz]; omega
theorem Ex.units {i : Nat} {y m : xV} (h : Ex i y m) (hi : i < 4) {p : Nat} (hp : p < 6) : cUnits y p = cUnits m p := by
  unfold cUnits
  rw [h.l hi (k := tz p 0) (Or.inr (tz_r hp (by decide))), h.l hi (k := tz p 1) (Or.inr (tz_r hp (by decide))), h.l hi (k := tz p 2) (Or.inr (tz_r hp (by decide))), h.l hi (k := tz p 3) (Or.inr (tz_r hp (by decide)))]
theorem Ex.height {i : Nat} {y m : xV} (h : Ex i y m) (hi : i < 4) : cHeight y (cDraught y 0) (y 6) = cHeight m (cDraught m 0) (m 6) := by
  unfold cHeight cDraught
  rw [h.tide hi, h.units hi (by decide), h.l hi (k := 6) (Or.inl (by decide))]
theorem Ex.floats {i : Nat} {y m : xV} (h : Ex i y m) (hi : i < 4) : cFloats y (cDraught y 0) (y 6) = cFloats m (cDraught m 0) (m 6) := by
  unfold cFloats cDraught
  rw [h.tide hi, h.units hi (by decide), h.l hi (k := 6) (Or.inl (by decide)), h.l hi (k := 2) (Or.inl (by decide)), h.l hi (k := 0) (Or.inl (by decide))]
theorem Ex.lateN {i : Nat} {y m : xV} (h : Ex i y m) (hi : i < 4) : ∀ k, k ≤ 6 → cLateN y k = cLateN m k := by
  intro k
  induction k with
  | zero => intro _; rfl
  | succ k ih =>
    intro hk
    have hc : cLateC y k = cLateC m k := by
      unfold cLateC cIsT
      rw [h.l hi (k := 12) (Or.inl (by decide)), h.l hi (k := 13) (Or.inl (by decide)), h.l hi (k := 4) (Or.inl (by decide)), h.l hi (k := 6) (Or.inl (by decide)), h.l hi (k := tz k 4) (Or.inr (tz_r (by omega) (by decide)))]
    show (if cLateC y k = true then cLateN y k + 1 else cLateN y k) = (if cLateC m k = true then cLateN m k + 1 else cLateN m k)
    rw [hc, ih (by omega)]
theorem Ex.tear {i : Nat} {y m : xV} (h : Ex i y m) (hi : i < 4) : Ex i (gTear y) (gTear m) := by
  unfold gTear
  dsimp only
  rw [h.l hi (k := 7) (Or.inl (by decide)), h.l hi (k := 6) (Or.inl (by decide)), h.tide hi, h.tide hi]
  split
  · exact h
  · have h1 : Ex i (upd y 7 0) (upd m 7 0) := h.up
    rw [h1.l hi (k := 9) (Or.inl (by decide)), h1.l hi (k := 8) (Or.inl (by decide))]
    exact h1.up.up
theorem Ex.burst {i : Nat} {y m : xV} (h : Ex i y m) (hi : i < 4) {j : Nat} (hj : j < 4) : Ex i (gBurst y j) (gBurst m j) := by
  unfold gBurst
  dsimp only
  rw [h.f hi hj (f := 2) (by decide) (Or.inr (by decide))]
  have h2 : Ex i (upd (upd y (hz j 3) 1) (hz j 2) (-100006)) (upd (upd m (hz j 3) 1) (hz j 2) (-100006)) := h.up.up
  split
  · exact h2
  rename_i hg
  have htn : tn (m (hz j 2)) < 4 := isG_tn (by simpa using hg)
  generalize upd (upd y (hz j 3) 1) (hz j 2) (-100006) = y2 at h2 ⊢
  generalize upd (upd m (hz j 3) 1) (hz j 2) (-100006) = m2 at h2 ⊢
  generalize tn (m (hz j 2)) = g at htn ⊢
  rw [h2.l hi (k := 3) (Or.inl (by decide)), h2.l hi (k := tz 0 g) (Or.inr (tz_r (by decide) (by omega))), h2.l hi (k := 7) (Or.inl (by decide)), h2.l hi (k := 8) (Or.inl (by decide))]
  generalize (if m2 7 = 0 then (0 : Int32) else imin (imin (m2 3) (m2 (tz 0 g))) (200 - m2 8)) = ib
  generalize imin (m2 3) (m2 (tz 0 g)) = u
  have h3 : Ex i (upd y2 (tz 0 g) (m2 (tz 0 g) - u)) (upd m2 (tz 0 g) (m2 (tz 0 g) - u)) := h2.up
  generalize upd y2 (tz 0 g) (m2 (tz 0 g) - u) = y3 at h3 ⊢
  generalize upd m2 (tz 0 g) (m2 (tz 0 g) - u) = m3 at h3 ⊢
  rw [h3.l hi (k := 22 + g) (Or.inl (by omega))]
  have h4 : Ex i (upd y3 (22 + g) (m3 (22 + g) + u)) (upd m3 (22 + g) (m3 (22 + g) + u)) := h3.up
  generalize upd y3 (22 + g) (m3 (22 + g) + u) = y4 at h4 ⊢
  generalize upd m3 (22 + g) (m3 (22 + g) + u) = m4 at h4 ⊢
  rw [h4.l hi (k := 8) (Or.inl (by decide))]
  have h5 : Ex i (upd y4 8 (m4 8 + ib)) (upd m4 8 (m4 8 + ib)) := h4.up
  rw [h5.l hi (k := 9) (Or.inl (by decide))]
  exact h5.up
theorem Ex.short {i : Nat} {y m : xV} (h : Ex i y m) (hi : i < 4) {j : Nat} (hj : j < 4) (hne : j ≠ i) : Ex i (gShort y j) (gShort m j) := by
  unfold gShort
  rw [h.f hi hj (f := 2) (by decide) (Or.inl hne), h.f hi hj (f := 0) (by decide) (Or.inl hne), h (80 + j) (by omega) (by simp only [hz]; omega) (by omega), h.height hi]
  split
  · exact h
  split
  · exact h.burst hi hj
  · exact h.up
theorem Ex.move {i : Nat} {y m : xV} (h : Ex i y m) (hi : i < 4) {j : Nat} (hj : j < 4) : (gMove y j).1 = (gMove m j).1 ∧ Ex i (gMove y j).2 (gMove m j).2 := by
  unfold gMove
  dsimp only
  rw [h.f hi hj (f := 2) (by decide) (Or.inr (by decide))]
  by_cases hg : isG (m (hz j 2)) = false
  · rw [if_pos hg, if_pos hg]; exact ⟨rfl, h⟩
  rw [if_neg hg, if_neg hg]
  have htn : tn (m (hz j 2)) < 4 := isG_tn (by simpa using hg)
  have hO : cOther y j = cOther m j := by
    unfold cOther
    rw [h.f hi hj (f := 1) (by decide) (Or.inr (by decide)), h.f hi hj (f := 2) (by decide) (Or.inr (by decide))]
  rw [hO]
  generalize m (hz j 2) = gg at htn ⊢
  generalize tn gg = g at htn ⊢
  rw [h.l hi (k := 3) (Or.inl (by decide)), h.l hi (k := tz 0 g) (Or.inr (tz_r (by decide) (by omega))), h.l hi (k := 14 + g) (Or.inl (by omega))]
  generalize imin (m 3) (imin (m (tz 0 g)) (1000 - m (14 + g))) = u
  by_cases hu : ¬ 0 < u
  · rw [if_pos hu, if_pos hu]; exact ⟨rfl, h⟩
  rw [if_neg hu, if_neg hu]
  have h2 : Ex i (upd (upd y (tz 0 g) (m (tz 0 g) - u)) (hz j 1) gg) (upd (upd m (tz 0 g) (m (tz 0 g) - u)) (hz j 1) gg) := h.up.up
  generalize upd (upd y (tz 0 g) (m (tz 0 g) - u)) (hz j 1) gg = y2 at h2 ⊢
  generalize upd (upd m (tz 0 g) (m (tz 0 g) - u)) (hz j 1) gg = m2 at h2 ⊢
  split
  · rw [h2.l hi (k := 18 + g) (Or.inl (by omega))]
    have h3 : Ex i (upd y2 (18 + g) (m2 (18 + g) + u)) (upd m2 (18 + g) (m2 (18 + g) + u)) := h2.up
    rw [h3.f hi hj (f := 5) (by decide) (Or.inr (by decide))]
    exact ⟨rfl, h3.up⟩
  · rw [h2.l hi (k := 14 + g) (Or.inl (by omega))]
    have h3 : Ex i (upd y2 (14 + g) (m2 (14 + g) + u)) (upd m2 (14 + g) (m2 (14 + g) + u)) := h2.up
    rw [h3.f hi hj (f := 4) (by decide) (Or.inr (by decide))]
    exact ⟨rfl, h3.up⟩
theorem Ex.moves {i : Nat} {y m : xV} (h : Ex i y m) (hi : i < 4) : ∀ k, k ≤ 4 → (gMoves y k).1 = (gMoves m k).1 ∧ Ex i (gMoves y k).2 (gMoves m k).2 := by
  intro k
  induction k with
  | zero => intro _; exact ⟨rfl, h⟩
  | succ k ih =>
    intro hk
    obtain ⟨i1, i2⟩ := ih (by omega)
    obtain ⟨j1, j2⟩ := i2.move hi (j := k) (by omega)
    rw [gMoves, gMoves]
    exact ⟨by show _ + _ = _ + _; rw [i1, j1], j2⟩
theorem Ex.moveU {i : Nat} {y m : xV} (h : Ex i y m) (hi : i < 4) : (gMoveU y).1 = (gMoveU m).1 ∧ Ex i (gMoveU y).2 (gMoveU m).2 := by
  unfold gMoveU
  rw [h.floats hi, h.l hi (k := 13) (Or.inl (by decide)), h.l hi (k := 7) (Or.inl (by decide))]
  split
  · exact ⟨rfl, h⟩
  · exact h.moves hi 4 (by decide)
/-! the hose that stretches, in an hour -/
theorem Ex.ownA {i : Nat} {y m : xV} (h : Ex i y m) (hi : i < 4) (hy : ¬ y (80 + i) = 0) (hle : y (hz i 0) ≤ m (hz i 0)) (hc : isG (m (hz i 2)) = false ∨ cHeight m (cDraught m 0) (m 6) ≤ m (hz i 0)) : gShort m i = m ∧ Ex i (gShort y i) m ∧ gShort y i (hz i 0) ≤ m (hz i 0) ∧ gShort y i (80 + i) = y (80 + i) := by
  refine ⟨by unfold gShort; rw [if_pos hc], ?_⟩
  unfold gShort
  rw [h.f hi hi (f := 2) (by decide) (Or.inr (by decide)), h.height hi]
  by_cases c : isG (m (hz i 2)) = false ∨ cHeight m (cDraught m 0) (m 6) ≤ y (hz i 0)
  · rw [if_pos c]; exact ⟨h, hle, rfl⟩
  rw [if_neg c, if_neg hy]
  have hH : cHeight m (cDraught m 0) (m 6) ≤ m (hz i 0) := hc.resolve_left (fun q => c (Or.inl q))
  refine ⟨fun k hk h1 h2 => ?_, by rw [upd_s]; exact hH, by rw [upd_n (by simp only [hz]; omega)]⟩
  rw [upd_n h1]; exact h k hk h1 h2
theorem Ex.ownB {i : Nat} {y m : xV} (h : Ex i y m) (hi : i < 4) (hy : ¬ y (80 + i) = 0) (hm : m (80 + i) = 0) (hle : y (hz i 0) ≤ m (hz i 0)) (hg : isG (m (hz i 2)) = true) (hc : m (hz i 0) < cHeight m (cDraught m 0) (m 6)) : gShort m i = gBurst m i ∧ m (hz i 0) < gShort y i (hz i 0) := by
  have n1 : ¬ (isG (m (hz i 2)) = false ∨ cHeight m (cDraught m 0) (m 6) ≤ m (hz i 0)) := by
    rintro (q | q)
    · rw [hg] at q; cases q
    · exact Int32.not_lt.mpr q hc
  refine ⟨by unfold gShort; rw [if_neg n1, if_pos hm], ?_⟩
  unfold gShort
  rw [h.f hi hi (f := 2) (by decide) (Or.inr (by decide)), h.height hi]
  have n2 : ¬ (isG (m (hz i 2)) = false ∨ cHeight m (cDraught m 0) (m 6) ≤ y (hz i 0)) := by
    rintro (q | q)
    · rw [hg] at q; cases q
    · exact n1 (Or.inr (Int32.le_trans q hle))
  rw [if_neg n2, if_neg hy, upd_s]
  exact hc
/-! the short hoses of an hour, one of them stretching -/
theorem gBurst_oth {z : xV} {i k f : Nat} (hi : i < 4) (hk : k < 4) (hf : f < 6) (hne : k ≠ i ∨ f = 0) : gBurst z k (hz i f) = z (hz i f) := by
  unfold gBurst
  dsimp only
  split
  · rw [upd_n (by simp only [hz]; omega), upd_n (by simp only [hz]; omega)]
  rename_i hg
  have htn : tn (z (hz k 2)) < 4 := isG_tn (by simpa using hg)
  generalize tn (z (hz k 2)) = g at htn ⊢
  rw [upd_n (by simp only [hz]; omega), upd_n (by simp only [hz]; omega), upd_n (by simp only [hz]; omega), upd_n (by simp only [tz, hz]; omega), upd_n (by simp only [hz]; omega), upd_n (by simp only [hz]; omega)]
theorem gBurst_3 {z : xV} {i : Nat} (hi : i < 4) : gBurst z i (hz i 3) = 1 := by
  unfold gBurst
  dsimp only
  split
  · rw [upd_n (by simp only [hz]; omega), upd_s]
  rename_i hg
  have htn : tn (z (hz i 2)) < 4 := isG_tn (by simpa using hg)
  generalize tn (z (hz i 2)) = g at htn ⊢
  rw [upd_n (by simp only [hz]; omega), upd_n (by simp only [hz]; omega), upd_n (by simp only [hz]; omega), upd_n (by simp only [tz, hz]; omega), upd_n (by simp only [hz]; omega), upd_s]
theorem gShort_oth {z : xV} {i k f : Nat} (hi : i < 4) (hk : k < 4) (hf : f < 6) (hne : k ≠ i) : gShort z k (hz i f) = z (hz i f) := by
  unfold gShort
  split
  · rfl
  split
  · exact gBurst_oth hi hk hf (Or.inl hne)
  · rw [upd_n (by simp only [hz]; omega)]
theorem Ex.shorts {i : Nat} {y m : xV} (h : Ex i y m) (hi : i < 4) (hy : ¬ y (80 + i) = 0) (hm : m (80 + i) = 0) (hle : y (hz i 0) ≤ m (hz i 0)) (hb : m (hz i 3) = 0) : ∀ k, k ≤ 4 →
    (Ex i (gShorts y k) (gShorts m k) ∧ gShorts y k (hz i 0) ≤ m (hz i 0) ∧ gShorts m k (hz i 0) = m (hz i 0) ∧ gShorts m k (hz i 3) = 0) ∨ (i < k ∧ ¬ gShorts m k (hz i 3) = 0 ∧ m (hz i 0) < gShorts y k (hz i 0)) := by
  intro k
  induction k with
  | zero => intro _; exact Or.inl ⟨h, hle, rfl, hb⟩
  | succ k ih =>
    intro hk
    rw [gShorts, gShorts]
    have y8 : ¬ gShorts y k (80 + i) = 0 := by rw [gShorts_o (by omega) k (by omega)]; exact hy
    have m8 : gShorts m k (80 + i) = 0 := by rw [gShorts_o (by omega) k (by omega)]; exact hm
    rcases ih (by omega) with ⟨a1, a2, a3, a4⟩ | ⟨b1, b2, b3⟩
    · by_cases hki : k = i
      · subst hki
        by_cases hc : isG (gShorts m k (hz k 2)) = false ∨ cHeight (gShorts m k) (cDraught (gShorts m k) 0) (gShorts m k 6) ≤ gShorts m k (hz k 0)
        · obtain ⟨c1, c2, c3, c4⟩ := a1.ownA hi y8 (by rw [a3]; exact a2) hc
          rw [c1]
          exact Or.inl ⟨c2, by rw [a3] at c3; exact c3, a3, a4⟩
        · have g1 : isG (gShorts m k (hz k 2)) = true := by
            cases q : isG (gShorts m k (hz k 2))
            · exact absurd (Or.inl q) hc
            · rfl
          obtain ⟨c1, c2⟩ := a1.ownB hi y8 m8 (by rw [a3]; exact a2) g1 (Int32.not_le.mp (fun q => hc (Or.inr q)))
          rw [c1]
          exact Or.inr ⟨by omega, by rw [gBurst_3 hi]; decide, by rw [a3] at c2; exact c2⟩
      · exact Or.inl ⟨a1.short hi (by omega) hki, by rw [gShort_oth hi (by omega) (by decide) hki]; exact a2, by rw [gShort_oth hi (by omega) (by decide) hki]; exact a3, by rw [gShort_oth hi (by omega) (by decide) hki]; exact a4⟩
    · have hki : k ≠ i := by omega
      exact Or.inr ⟨by omega, by rw [gShort_oth hi (by omega) (by decide) hki]; exact b2, by rw [gShort_oth hi (by omega) (by decide) hki]; exact b3⟩
/-! a connected hose is not burst -/
def CB (z : xV) : Prop := ∀ i, i < 4 → isG (z (hz i 2)) = true → z (hz i 3) = 0
theorem CB.cg {z w : xV} (h : CB z) (e : ∀ i, i < 4 → w (hz i 2) = z (hz i 2) ∧ w (hz i 3) = z (hz i 3)) : CB w := fun i hi hg => by
  rw [(e i hi).2]
  rw [(e i hi).1] at hg
  exact h i hi hg
theorem gBurst_2 {z : xV} {i : Nat} (hi : i < 4) : gBurst z i (hz i 2) = -100006 := by
  unfold gBurst
  dsimp only
  split
  · rw [upd_s]
  rename_i hg
  have htn : tn (z (hz i 2)) < 4 := isG_tn (by simpa using hg)
  generalize tn (z (hz i 2)) = g at htn ⊢
  rw [upd_n (by simp only [hz]; omega), upd_n (by simp only [hz]; omega), upd_n (by simp only [hz]; omega), upd_n (by simp only [tz, hz]; omega), upd_s]
theorem CB.short {z : xV} (h : CB z) {k : Nat} (hk : k < 4) : CB (gShort z k) := by
  intro i hi hg
  by_cases e : k = i
  · subst e
    unfold gShort at hg ⊢
    by_cases c1 : isG (z (hz k 2)) = false ∨ cHeight z (cDraught z 0) (z 6) ≤ z (hz k 0)
    · rw [if_pos c1] at hg ⊢; exact h k hi hg
    rw [if_neg c1] at hg ⊢
    by_cases c2 : z (80 + k) = 0
    · rw [if_pos c2, gBurst_2 hi] at hg
      exact absurd hg (by decide)
    · rw [if_neg c2, upd_n (by simp only [hz]; omega)] at hg
      rw [if_neg c2, upd_n (by simp only [hz]; omega)]
      exact h k hi hg
  · rw [gShort_oth hi hk (by decide) e] at hg ⊢
    exact h i hi hg
theorem CB.shorts {z : xV} (h : CB z) : ∀ k, k ≤ 4 → CB (gShorts z k) := by
  intro k
  induction k with
  | zero => intro _; exact h
  | succ k ih => intro hk; rw [gShorts]; exact (ih (by omega)).short (by omega)
theorem CB.bursts {z : xV} (h : CB z) : CB (gBursts z) := by
  unfold gBursts
  split
  · exact h
  · exact h.shorts 4 (by decide)
theorem CB.hour {z : xV} (h : CB z) : CB (gHour z).2 := by
  have h1 : CB (gTear (upd z 6 (z 6 + 1))) := h.cg (fun i hi => ⟨by rw [gTear_o (by simp only [hz]; omega), upd_n (by simp only [hz]; omega)], by rw [gTear_o (by simp only [hz]; omega), upd_n (by simp only [hz]; omega)]⟩)
  refine h1.bursts.cg (fun i hi => ⟨?_, ?_⟩)
  · show upd _ 11 _ (hz i 2) = _
    rw [upd_n (by simp only [hz]; omega), gMoveU_o (Or.inr (Or.inr ⟨i, hi, Or.inr (Or.inl rfl)⟩))]
  · show upd _ 11 _ (hz i 3) = _
    rw [upd_n (by simp only [hz]; omega), gMoveU_o (Or.inr (Or.inr ⟨i, hi, Or.inr (Or.inr rfl)⟩))]
theorem CB.hours {z : xV} (h : CB z) : ∀ k, CB (gHours z k).2 := by
  intro k
  induction k with
  | zero => exact h
  | succ k ih => exact ih.hour
/-! the least reach: one course with a hose that stretches, against a course for each reach -/
theorem Ex.hour {i : Nat} {y m : xV} (h : Ex i y m) (hi : i < 4) (hvy : IV y) (hvm : IV m) (hy : ¬ y (80 + i) = 0) (hm : m (80 + i) = 0) (hle : y (hz i 0) ≤ m (hz i 0)) (hb : m (hz i 3) = 0) :
    (Ex i (gHour y).2 (gHour m).2 ∧ (gHour y).2 (hz i 0) ≤ m (hz i 0) ∧ (gHour m).2 (hz i 0) = m (hz i 0) ∧ (gHour m).2 (hz i 3) = 0) ∨ (¬ (gHour m).2 (hz i 3) = 0 ∧ m (hz i 0) < (gHour y).2 (hz i 0)) := by
  have e6 : y 6 = m 6 := h.l hi (Or.inl (by decide))
  have h1 : Ex i (upd y 6 (y 6 + 1)) (upd m 6 (m 6 + 1)) := by rw [e6]; exact h.up
  have h2 := h1.tear hi
  have v1y : IV (gTear (upd y 6 (y 6 + 1))) := (hvy.up (VC.free (Or.inl rfl))).tear
  have v1m : IV (gTear (upd m 6 (m 6 + 1))) := (hvm.up (VC.free (Or.inl rfl))).tear
  have o0 : ∀ z : xV, gTear (upd z 6 (z 6 + 1)) (hz i 0) = z (hz i 0) := fun z => by rw [gTear_o (by simp only [hz]; omega), upd_n (by simp only [hz]; omega)]
  have o3 : ∀ z : xV, gTear (upd z 6 (z 6 + 1)) (hz i 3) = z (hz i 3) := fun z => by rw [gTear_o (by simp only [hz]; omega), upd_n (by simp only [hz]; omega)]
  have o8 : ∀ z : xV, gTear (upd z 6 (z 6 + 1)) (80 + i) = z (80 + i) := fun z => by rw [gTear_o (by omega), upd_n (by omega)]
  have f0 : ∀ z : xV, (gHour z).2 (hz i 0) = gBursts (gTear (upd z 6 (z 6 + 1))) (hz i 0) := fun z => by
    show upd _ 11 _ (hz i 0) = _
    rw [upd_n (by simp only [hz]; omega), gMoveU_o (Or.inr (Or.inr ⟨i, hi, Or.inl rfl⟩))]
  have f3 : ∀ z : xV, (gHour z).2 (hz i 3) = gBursts (gTear (upd z 6 (z 6 + 1))) (hz i 3) := fun z => by
    show upd _ 11 _ (hz i 3) = _
    rw [upd_n (by simp only [hz]; omega), gMoveU_o (Or.inr (Or.inr ⟨i, hi, Or.inr (Or.inr rfl)⟩))]
  have hs := h2.shorts hi (by rw [o8]; exact hy) (by rw [o8]; exact hm) (by rw [o0, o0]; exact hle) (by rw [o3]; exact hb) 4 (by decide)
  rw [gBursts_iv v1y, gBursts_iv v1m, o0] at hs
  rw [f0, f0, f3]
  rcases hs with ⟨a1, a2, a3, a4⟩ | ⟨-, b2, b3⟩
  · left
    refine ⟨?_, a2, a3, a4⟩
    have h4 := (a1.moveU hi).2
    have e11 := h4.l hi (k := 11) (Or.inl (by decide))
    have e5 := h4.l hi (k := 5) (Or.inl (by decide))
    have eL := h4.lateN hi 6 (by decide)
    show Ex i (upd _ 11 _) (upd _ 11 _)
    rw [e11, e5, eL]
    exact h4.up
  · exact Or.inr ⟨b2, b3⟩
theorem reach_up {z : xV} {i k : Nat} (hi : i < 4) (hk : k < 4) : z (hz i 0) ≤ gShort z k (hz i 0) := by
  by_cases e : k = i
  · subst e
    unfold gShort
    by_cases c1 : isG (z (hz k 2)) = false ∨ cHeight z (cDraught z 0) (z 6) ≤ z (hz k 0)
    · rw [if_pos c1]; exact Int32.le_refl _
    rw [if_neg c1]
    by_cases c2 : z (80 + k) = 0
    · rw [if_pos c2, gBurst_oth hi hi (by decide) (Or.inr rfl)]; exact Int32.le_refl _
    · rw [if_neg c2, upd_s]
      exact Int32.le_of_lt (Int32.not_le.mp (fun q => c1 (Or.inr q)))
  · rw [gShort_oth hi hk (by decide) e]; exact Int32.le_refl _
theorem reach_ups {z : xV} {i : Nat} (hi : i < 4) : ∀ k, k ≤ 4 → z (hz i 0) ≤ gShorts z k (hz i 0) := by
  intro k
  induction k with
  | zero => intro _; exact Int32.le_refl _
  | succ k ih => intro hk; rw [gShorts]; exact Int32.le_trans (ih (by omega)) (reach_up hi (by omega))
theorem reach_hour {z : xV} {i : Nat} (hi : i < 4) : z (hz i 0) ≤ (gHour z).2 (hz i 0) := by
  have f0 : (gHour z).2 (hz i 0) = gBursts (gTear (upd z 6 (z 6 + 1))) (hz i 0) := by
    show upd _ 11 _ (hz i 0) = _
    rw [upd_n (by simp only [hz]; omega), gMoveU_o (Or.inr (Or.inr ⟨i, hi, Or.inl rfl⟩))]
  have o0 : gTear (upd z 6 (z 6 + 1)) (hz i 0) = z (hz i 0) := by rw [gTear_o (by simp only [hz]; omega), upd_n (by simp only [hz]; omega)]
  rw [f0]
  unfold gBursts
  split
  · rw [o0]; exact Int32.le_refl _
  · have := reach_ups (z := gTear (upd z 6 (z 6 + 1))) hi 4 (by decide)
    rw [o0] at this
    exact this
theorem burst_up {z : xV} {i k : Nat} (hi : i < 4) (hk : k < 4) (h : ¬ z (hz i 3) = 0) : ¬ gShort z k (hz i 3) = 0 := by
  by_cases e : k = i
  · subst e
    unfold gShort
    split
    · exact h
    split
    · rw [gBurst_3 hi]; decide
    · rw [upd_n (by simp only [hz]; omega)]; exact h
  · rw [gShort_oth hi hk (by decide) e]; exact h
theorem burst_ups {z : xV} {i : Nat} (hi : i < 4) (h : ¬ z (hz i 3) = 0) : ∀ k, k ≤ 4 → ¬ gShorts z k (hz i 3) = 0 := by
  intro k
  induction k with
  | zero => intro _; exact h
  | succ k ih => intro hk; rw [gShorts]; exact burst_up hi (by omega) (ih (by omega))
theorem burst_hour {z : xV} {i : Nat} (hi : i < 4) (h : ¬ z (hz i 3) = 0) : ¬ (gHour z).2 (hz i 3) = 0 := by
  have f3 : (gHour z).2 (hz i 3) = gBursts (gTear (upd z 6 (z 6 + 1))) (hz i 3) := by
    show upd _ 11 _ (hz i 3) = _
    rw [upd_n (by simp only [hz]; omega), gMoveU_o (Or.inr (Or.inr ⟨i, hi, Or.inr (Or.inr rfl)⟩))]
  have o3 : gTear (upd z 6 (z 6 + 1)) (hz i 3) = z (hz i 3) := by rw [gTear_o (by simp only [hz]; omega), upd_n (by simp only [hz]; omega)]
  rw [f3]
  unfold gBursts
  split
  · rw [o3]; exact h
  · exact burst_ups hi (by rw [o3]; exact h) 4 (by decide)
theorem burst_hours {z : xV} {i : Nat} (hi : i < 4) {a : Nat} (h : ¬ (gHours z a).2 (hz i 3) = 0) : ∀ d, ¬ (gHours z (a + d)).2 (hz i 3) = 0 := by
  intro d
  induction d with
  | zero => exact h
  | succ d ih => exact burst_hour hi ih
theorem sfN_200 {m : xV} {i : Nat} (hi : i < 4) : sfN m i = 200 ↔ (gHours m 200).2 (hz i 3) = 0 := by
  unfold sfN
  constructor
  · intro h
    refine Classical.byContradiction (fun q => ?_)
    have := ff_some (P := fun k => decide (¬ (gHours m (k + 1)).2 (hz i 3) = 0)) 200 0 199 (by decide) (by decide) (by rw [decide_eq_true_eq]; exact q)
    omega
  · intro h
    refine ff_all 200 0 (fun j _ hj => ?_)
    rw [decide_eq_false_iff_not]
    intro q
    have := burst_hours hi q (199 - j)
    rw [show j + 1 + (199 - j) = 200 by omega] at this
    exact this h
/-- hour by hour -/
theorem Ex.hours {i : Nat} {y m : xV} (h : Ex i y m) (hi : i < 4) (hvy : IV y) (hvm : IV m) (hy : ¬ y (80 + i) = 0) (hm : m (80 + i) = 0) (hle : y (hz i 0) ≤ m (hz i 0)) (hb : m (hz i 3) = 0) : ∀ k,
    (Ex i (gHours y k).2 (gHours m k).2 ∧ (gHours y k).2 (hz i 0) ≤ m (hz i 0) ∧ (gHours m k).2 (hz i 0) = m (hz i 0) ∧ (gHours m k).2 (hz i 3) = 0) ∨ (¬ (gHours m k).2 (hz i 3) = 0 ∧ m (hz i 0) < (gHours y k).2 (hz i 0)) := by
  intro k
  induction k with
  | zero => exact Or.inl ⟨h, hle, rfl, hb⟩
  | succ k ih =>
    show (Ex i (gHour (gHours y k).2).2 (gHour (gHours m k).2).2 ∧ _ ∧ (gHour (gHours m k).2).2 (hz i 0) = _ ∧ (gHour (gHours m k).2).2 (hz i 3) = 0) ∨ (¬ (gHour (gHours m k).2).2 (hz i 3) = 0 ∧ _)
    rcases ih with ⟨a1, a2, a3, a4⟩ | ⟨b1, b2⟩
    · have := a1.hour hi (hvy.hours k).1 (hvm.hours k).1 (by rw [gHours_o (by omega)]; exact hy) (by rw [gHours_o (by omega)]; exact hm) (by rw [a3]; exact a2) a4
      rw [a3] at this
      exact this
    · exact Or.inr ⟨burst_hour hi b1, Int32.lt_of_lt_of_le b2 (reach_hour hi)⟩
/-- the least reach ρ of a hose: with a reach from ρ on it stays whole for 200 hours, with a lesser one it does not -/
theorem least_rg {m : xV} {i : Nat} (hi : i < 4) (hv : IV m) (hm : m (80 + i) = 0) (hb : m (hz i 3) = 0) : ∃ ρ, 20 ≤ ρ ∧ ρ ≤ 120 ∧ (gHours (cStr m i) 200).2 (hz i 0) = nI ρ ∧ ∀ r, 20 ≤ r → r < 121 → (sfN (upd m (hz i 0) (nI r)) i = 200 ↔ ρ ≤ r) := by
  have hvy : IV (cStr m i) := by
    unfold cStr
    exact (hv.cg (b := upd m (80 + i) 1) (fun k hk => upd_n (by omega))).up (VC.h0 hi ⟨by decide, by decide⟩)
  have hy : ¬ cStr m i (80 + i) = 0 := by
    unfold cStr
    rw [upd_n (by simp only [hz]; omega), upd_s]; decide
  have h0 : cStr m i (hz i 0) = 20 := by unfold cStr; rw [upd_s]
  obtain ⟨ρ, hr1, hr2, hr⟩ := rgN (lo := 20) (hi := 120) (by decide) (by decide) (((hvy.hours 200).1.2.2.2.2.2.2.1 i hi).1)
  have key : ∀ r, 20 ≤ r → r < 121 → (sfN (upd m (hz i 0) (nI r)) i = 200 ↔ ρ ≤ r) := by
    intro r h1 h2
    have hex : Ex i (cStr m i) (upd m (hz i 0) (nI r)) := fun k hk n1 n2 => by
      unfold cStr
      rw [upd_n n1, upd_n n2, upd_n n1]
    have hvm : IV (upd m (hz i 0) (nI r)) := hv.up (VC.h0 hi (rgM (lo := 20) (hi := 120) h1 (by omega) (by decide)))
    have := hex.hours hi hvy hvm hy (by rw [upd_n (by simp only [hz]; omega)]; exact hm) (by rw [h0, upd_s]; exact nI_le (a := 20) h1 (by omega)) (by rw [upd_n (by simp only [hz]; omega)]; exact hb) 200
    rw [upd_s, hr] at this
    rw [sfN_200 hi]
    rcases this with ⟨-, a2, -, a4⟩ | ⟨b1, b2⟩
    · exact ⟨fun _ => (nI_leI (by omega) (by omega)).mp a2, fun _ => a4⟩
    · refine ⟨fun q => absurd q b1, fun q => ?_⟩
      have := (nI_ltI (by omega) (by omega)).mp b2
      omega
  exact ⟨ρ, hr1, hr2, hr, key⟩
