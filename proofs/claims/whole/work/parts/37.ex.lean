/-! rows that differ in one hose's reach only -/
def Ex (i : Nat) (y m : xV) : Prop := ∀ k, k < 84 → k ≠ hz i 0 → k ≠ 80 + i → y k = m k
theorem Ex.l {i : Nat} {y m : xV} (h : Ex i y m) (hi : i < 4) {k : Nat} (hk : k < 26 ∨ (50 ≤ k ∧ k < 80)) : y k = m k := h k (by omega) (by simp only [hz]; omega) (by omega)
theorem Ex.f {i : Nat} {y m : xV} (h : Ex i y m) (hi : i < 4) {j f : Nat} (hj : j < 4) (hf : f < 6) (hne : j ≠ i ∨ f ≠ 0) : y (hz j f) = m (hz j f) := h _ (by simp only [hz]; omega) (by simp only [hz]; omega) (by simp only [hz]; omega)
theorem Ex.up {i : Nat} {y m : xV} (h : Ex i y m) {k : Nat} {v : Int32} : Ex i (upd y k v) (upd m k v) := fun j hj h1 h2 => upd_eq2 (h j hj h1 h2)
theorem Ex.tide {i : Nat} {y m : xV} (h : Ex i y m) (hi : i < 4) (t : Int32) : cTide y t = cTide m t := by
  unfold cTide
  rw [h.l hi (k := 1) (Or.inl (by decide))]
theorem tz_r {p f : Nat} (hp : p < 6) (hf : f < 5) : 50 ≤ tz p f ∧ tz p f < 80 := by simp only [tz]; omega
theorem Ex.units {i : Nat} {y m : xV} (h : Ex i y m) (hi : i < 4) {p : Nat} (hp : p < 6) : cUnits y p = cUnits m p := by
  unfold cUnits
  rw [h.l hi (k := tz p 0) (Or.inr (tz_r hp (by decide))), h.l hi (k := tz p 1) (Or.inr (tz_r hp (by decide))), h.l hi (k := tz p 2) (Or.inr (tz_r hp (by decide))), h.l hi (k := tz p 3) (Or.inr (tz_r hp (by decide)))]
theorem Ex.height {i : Nat} {y m : xV} (h : Ex i y m) (hi : i < 4) : cHeight y (cDraught y 0) (y 6) = cHeight m (cDraught m 0) (m 6) := by
  unfold cHeight cDraught
  rw [h.tide hi, h.units hi (by decide), h.l hi (k := 6) (Or.inl (by decide))]
theorem Ex.floats {i : Nat} {y m : xV} (h : Ex i y m) (hi : i < 4) : cFloats y (cDraught y 0) (y 6) = cFloats m (cDraught m 0) (m 6) := by
  unfold cFloats cDraught
  rw [h.tide hi, h.units hi (by decide), h.l hi (k := 6) (Or.inl (by decide)), h.l hi (k := 2) (Or.inl (by decide)), h.l hi (k := 0) (Or.inl (by decide))]
theorem Ex.lateN {i : Nat} {y m : xV} (h : Ex i y m) (hi : i < 4) : ∀ k, k ≤ 6 → cLateN y k = cLateN m k := by
  intro k
  induction k with
  | zero => intro _; rfl
  | succ k ih =>
    intro hk
    have hc : cLateC y k = cLateC m k := by
      unfold cLateC cIsT
      rw [h.l hi (k := 12) (Or.inl (by decide)), h.l hi (k := 13) (Or.inl (by decide)), h.l hi (k := 4) (Or.inl (by decide)), h.l hi (k := 6) (Or.inl (by decide)), h.l hi (k := tz k 4) (Or.inr (tz_r (by omega) (by decide)))]
    show (if cLateC y k = true then cLateN y k + 1 else cLateN y k) = (if cLateC m k = true then cLateN m k + 1 else cLateN m k)
    rw [hc, ih (by omega)]
theorem Ex.tear {i : Nat} {y m : xV} (h : Ex i y m) (hi : i < 4) : Ex i (gTear y) (gTear m) := by
  unfold gTear
  dsimp only
  rw [h.l hi (k := 7) (Or.inl (by decide)), h.l hi (k := 6) (Or.inl (by decide)), h.tide hi, h.tide hi]
  split
  · exact h
  · have h1 : Ex i (upd y 7 0) (upd m 7 0) := h.up
    rw [h1.l hi (k := 9) (Or.inl (by decide)), h1.l hi (k := 8) (Or.inl (by decide))]
    exact h1.up.up
theorem Ex.burst {i : Nat} {y m : xV} (h : Ex i y m) (hi : i < 4) {j : Nat} (hj : j < 4) : Ex i (gBurst y j) (gBurst m j) := by
  unfold gBurst
  dsimp only
  rw [h.f hi hj (f := 2) (by decide) (Or.inr (by decide))]
  have h2 : Ex i (upd (upd y (hz j 3) 1) (hz j 2) (-100006)) (upd (upd m (hz j 3) 1) (hz j 2) (-100006)) := h.up.up
  split
  · exact h2
  rename_i hg
  have htn : tn (m (hz j 2)) < 4 := isG_tn (by simpa using hg)
  generalize upd (upd y (hz j 3) 1) (hz j 2) (-100006) = y2 at h2 ⊢
  generalize upd (upd m (hz j 3) 1) (hz j 2) (-100006) = m2 at h2 ⊢
  generalize tn (m (hz j 2)) = g at htn ⊢
  rw [h2.l hi (k := 3) (Or.inl (by decide)), h2.l hi (k := tz 0 g) (Or.inr (tz_r (by decide) (by omega))), h2.l hi (k := 7) (Or.inl (by decide)), h2.l hi (k := 8) (Or.inl (by decide))]
  generalize (if m2 7 = 0 then (0 : Int32) else imin (imin (m2 3) (m2 (tz 0 g))) (200 - m2 8)) = ib
  generalize imin (m2 3) (m2 (tz 0 g)) = u
  have h3 : Ex i (upd y2 (tz 0 g) (m2 (tz 0 g) - u)) (upd m2 (tz 0 g) (m2 (tz 0 g) - u)) := h2.up
  generalize upd y2 (tz 0 g) (m2 (tz 0 g) - u) = y3 at h3 ⊢
  generalize upd m2 (tz 0 g) (m2 (tz 0 g) - u) = m3 at h3 ⊢
  rw [h3.l hi (k := 22 + g) (Or.inl (by omega))]
  have h4 : Ex i (upd y3 (22 + g) (m3 (22 + g) + u)) (upd m3 (22 + g) (m3 (22 + g) + u)) := h3.up
  generalize upd y3 (22 + g) (m3 (22 + g) + u) = y4 at h4 ⊢
  generalize upd m3 (22 + g) (m3 (22 + g) + u) = m4 at h4 ⊢
  rw [h4.l hi (k := 8) (Or.inl (by decide))]
  have h5 : Ex i (upd y4 8 (m4 8 + ib)) (upd m4 8 (m4 8 + ib)) := h4.up
  rw [h5.l hi (k := 9) (Or.inl (by decide))]
  exact h5.up
theorem Ex.short {i : Nat} {y m : xV} (h : Ex i y m) (hi : i < 4) {j : Nat} (hj : j < 4) (hne : j ≠ i) : Ex i (gShort y j) (gShort m j) := by
  unfold gShort
  rw [h.f hi hj (f := 2) (by decide) (Or.inl hne), h.f hi hj (f := 0) (by decide) (Or.inl hne), h (80 + j) (by omega) (by simp only [hz]; omega) (by omega), h.height hi]
  split
  · exact h
  split
  · exact h.burst hi hj
  · exact h.up
theorem Ex.move {i : Nat} {y m : xV} (h : Ex i y m) (hi : i < 4) {j : Nat} (hj : j < 4) : (gMove y j).1 = (gMove m j).1 ∧ Ex i (gMove y j).2 (gMove m j).2 := by
  unfold gMove
  dsimp only
  rw [h.f hi hj (f := 2) (by decide) (Or.inr (by decide))]
  by_cases hg : isG (m (hz j 2)) = false
  · rw [if_pos hg, if_pos hg]; exact ⟨rfl, h⟩
  rw [if_neg hg, if_neg hg]
  have htn : tn (m (hz j 2)) < 4 := isG_tn (by simpa using hg)
  have hO : cOther y j = cOther m j := by
    unfold cOther
    rw [h.f hi hj (f := 1) (by decide) (Or.inr (by decide)), h.f hi hj (f := 2) (by decide) (Or.inr (by decide))]
  rw [hO]
  generalize m (hz j 2) = gg at htn ⊢
  generalize tn gg = g at htn ⊢
  rw [h.l hi (k := 3) (Or.inl (by decide)), h.l hi (k := tz 0 g) (Or.inr (tz_r (by decide) (by omega))), h.l hi (k := 14 + g) (Or.inl (by omega))]
  generalize imin (m 3) (imin (m (tz 0 g)) (1000 - m (14 + g))) = u
  by_cases hu : ¬ 0 < u
  · rw [if_pos hu, if_pos hu]; exact ⟨rfl, h⟩
  rw [if_neg hu, if_neg hu]
  have h2 : Ex i (upd (upd y (tz 0 g) (m (tz 0 g) - u)) (hz j 1) gg) (upd (upd m (tz 0 g) (m (tz 0 g) - u)) (hz j 1) gg) := h.up.up
  generalize upd (upd y (tz 0 g) (m (tz 0 g) - u)) (hz j 1) gg = y2 at h2 ⊢
  generalize upd (upd m (tz 0 g) (m (tz 0 g) - u)) (hz j 1) gg = m2 at h2 ⊢
  split
  · rw [h2.l hi (k := 18 + g) (Or.inl (by omega))]
    have h3 : Ex i (upd y2 (18 + g) (m2 (18 + g) + u)) (upd m2 (18 + g) (m2 (18 + g) + u)) := h2.up
    rw [h3.f hi hj (f := 5) (by decide) (Or.inr (by decide))]
    exact ⟨rfl, h3.up⟩
  · rw [h2.l hi (k := 14 + g) (Or.inl (by omega))]
    have h3 : Ex i (upd y2 (14 + g) (m2 (14 + g) + u)) (upd m2 (14 + g) (m2 (14 + g) + u)) := h2.up
    rw [h3.f hi hj (f := 4) (by decide) (Or.inr (by decide))]
    exact ⟨rfl, h3.up⟩
theorem Ex.moves {i : Nat} {y m : xV} (h : Ex i y m) (hi : i < 4) : ∀ k, k ≤ 4 → (gMoves y k).1 = (gMoves m k).1 ∧ Ex i (gMoves y k).2 (gMoves m k).2 := by
  intro k
  induction k with
  | zero => intro _; exact ⟨rfl, h⟩
  | succ k ih =>
    intro hk
    obtain ⟨i1, i2⟩ := ih (by omega)
    obtain ⟨j1, j2⟩ := i2.move hi (j := k) (by omega)
    rw [gMoves, gMoves]
    exact ⟨by show _ + _ = _ + _; rw [i1, j1], j2⟩
theorem Ex.moveU {i : Nat} {y m : xV} (h : Ex i y m) (hi : i < 4) : (gMoveU y).1 = (gMoveU m).1 ∧ Ex i (gMoveU y).2 (gMoveU m).2 := by
  unfold gMoveU
  rw [h.floats hi, h.l hi (k := 13) (Or.inl (by decide)), h.l hi (k := 7) (Or.inl (by decide))]
  split
  · exact ⟨rfl, h⟩
  · exact h.moves hi 4 (by decide)
