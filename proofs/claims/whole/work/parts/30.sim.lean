/-! two rows that tell the same: but for tankers that are not there -/
def Sim (y m : xV) : Prop := (∀ k, k < 50 ∨ (80 ≤ k ∧ k < 84) → y k = m k) ∧ ∀ p, p < 6 → live m p → ∀ f, f < 5 → y (tz p f) = m (tz p f)
theorem Sim.r {y m : xV} (h : Sim y m) {k : Nat} (hk : k < 50 ∨ (80 ≤ k ∧ k < 84)) : y k = m k := h.1 k hk
theorem Sim.t {y m : xV} (h : Sim y m) {p f : Nat} (hp : p < 6) (hl : live m p) (hf : f < 5) : y (tz p f) = m (tz p f) := h.2 p hp hl f hf
theorem Sim.rf {m : xV} : Sim m m := ⟨fun _ _ => rfl, fun _ _ _ _ _ => rfl⟩
theorem Sim.liv {y m : xV} (h : Sim y m) {p : Nat} : live y p ↔ live m p := by
  unfold live
  rw [h.r (k := 12) (Or.inl (by decide)), h.r (k := 13) (Or.inl (by decide))]
theorem upd_eq2 {y m : xV} {k j : Nat} {v : Int32} (h : y j = m j) : upd y k v j = upd m k v j := by
  by_cases e : j = k
  · rw [e, upd_s, upd_s]
  · rw [upd_n e, upd_n e]; exact h
theorem Sim.up {y m : xV} (h : Sim y m) {k : Nat} {v : Int32} (h12 : k ≠ 12) (h13 : k ≠ 13) : Sim (upd y k v) (upd m k v) :=
  ⟨fun j hj => upd_eq2 (h.1 j hj), fun p hp hl f hf => upd_eq2 (h.2 p hp ((live_up h12 h13).mp hl) f hf)⟩
theorem Sim.tide {y m : xV} (h : Sim y m) (t : Int32) : cTide y t = cTide m t := by
  unfold cTide
  rw [h.r (k := 1) (Or.inl (by decide))]
theorem Sim.units {y m : xV} (h : Sim y m) {p : Nat} (hp : p < 6) (hl : live m p) : cUnits y p = cUnits m p := by
  unfold cUnits
  rw [h.t hp hl (f := 0) (by decide), h.t hp hl (f := 1) (by decide), h.t hp hl (f := 2) (by decide), h.t hp hl (f := 3) (by decide)]
theorem Sim.draught {y m : xV} (h : Sim y m) {p : Nat} (hp : p < 6) (hl : live m p) : cDraught y p = cDraught m p := by
  unfold cDraught
  rw [h.units hp hl]
theorem Sim.height {y m : xV} (h : Sim y m) (d t : Int32) : cHeight y d t = cHeight m d t := by
  unfold cHeight
  rw [h.tide]
theorem Sim.floats {y m : xV} (h : Sim y m) (d t : Int32) : cFloats y d t = cFloats m d t := by
  unfold cFloats
  rw [h.tide, h.r (k := 2) (Or.inl (by decide)), h.r (k := 0) (Or.inl (by decide))]
theorem hz_lt {i f : Nat} (hi : i < 4) (hf : f < 6) : hz i f < 50 := by simp only [hz]; omega
theorem Sim.rh {y m : xV} (h : Sim y m) {i f : Nat} (hi : i < 4) (hf : f < 6) : y (hz i f) = m (hz i f) := h.r (Or.inl (hz_lt hi hf))
theorem Sim.connN {y m : xV} (h : Sim y m) : cConnN y = cConnN m := by
  unfold cConnN
  rw [h.rh (i := 0) (f := 2) (by decide) (by decide), h.rh (i := 1) (f := 2) (by decide) (by decide), h.rh (i := 2) (f := 2) (by decide) (by decide), h.rh (i := 3) (f := 2) (by decide) (by decide)]
theorem Sim.burstN {y m : xV} (h : Sim y m) : cBurstN y = cBurstN m := by
  unfold cBurstN
  rw [h.rh (i := 0) (f := 3) (by decide) (by decide), h.rh (i := 1) (f := 3) (by decide) (by decide), h.rh (i := 2) (f := 3) (by decide) (by decide), h.rh (i := 3) (f := 3) (by decide) (by decide)]
theorem Sim.spoilt {y m : xV} (h : Sim y m) : cSpoilt y = cSpoilt m := by
  unfold cSpoilt
  rw [h.r (k := 18) (Or.inl (by decide)), h.r (k := 19) (Or.inl (by decide)), h.r (k := 20) (Or.inl (by decide)), h.r (k := 21) (Or.inl (by decide))]
theorem Sim.isT {y m : xV} (h : Sim y m) (p : Int32) : cIsT y p = cIsT m p := by
  unfold cIsT
  rw [h.r (k := 12) (Or.inl (by decide)), h.r (k := 13) (Or.inl (by decide))]
theorem isT_live {m : xV} (hi : IV m) {k : Nat} (hk : k < 6) (h : ¬ cIsT m (nI k) = 0) : live m k := by
  have e := mIsT_c hi hk
  rw [decide_eq_true h] at e
  unfold mIsT at e
  unfold live
  by_cases h0 : k = 0
  · subst h0
    rw [if_pos rfl]
    rw [if_pos (show nI 0 = 0 from rfl)] at e
    exact of_decide_eq_true e.symm
  · rw [if_neg h0]
    rw [if_neg (nI_ne0 (by omega) (by omega))] at e
    have e := e.symm
    simp only [Bool.and_eq_true, decide_eq_true_eq] at e
    exact e.2
theorem Sim.lateN {y m : xV} (h : Sim y m) (hi : IV m) : ∀ k, k ≤ 6 → cLateN y k = cLateN m k := by
  intro k
  induction k with
  | zero => intro _; rfl
  | succ k ih =>
    intro hk
    have hc : cLateC y k = cLateC m k := by
      unfold cLateC
      rw [h.isT, h.r (k := 4) (Or.inl (by decide)), h.r (k := 6) (Or.inl (by decide))]
      by_cases q : cIsT m (nI k) = 0
      · simp [q]
      · rw [h.t (by omega) (isT_live hi (by omega) q) (f := 4) (by decide)]
    show (if cLateC y k = true then cLateN y k + 1 else cLateN y k) = (if cLateC m k = true then cLateN m k + 1 else cLateN m k)
    rw [hc, ih (by omega)]
theorem Sim.tear {y m : xV} (h : Sim y m) : Sim (gTear y) (gTear m) := by
  unfold gTear
  dsimp only
  rw [h.r (k := 7) (Or.inl (by decide)), h.r (k := 6) (Or.inl (by decide)), h.tide, h.tide]
  split
  · exact h
  · have h1 : Sim (upd y 7 0) (upd m 7 0) := h.up (by decide) (by decide)
    rw [h1.r (k := 9) (Or.inl (by decide)), h1.r (k := 8) (Or.inl (by decide))]
    exact (h1.up (by decide) (by decide)).up (by decide) (by decide)
theorem Sim.burst {y m : xV} (h : Sim y m) {i : Nat} (hi : i < 4) (hl : live m 0) : Sim (gBurst y i) (gBurst m i) := by
  unfold gBurst
  dsimp only
  rw [h.rh hi (f := 2) (by decide)]
  have a3 : hz i 3 ≠ 12 ∧ hz i 3 ≠ 13 ∧ hz i 2 ≠ 12 ∧ hz i 2 ≠ 13 := by simp only [hz]; omega
  have h2 : Sim (upd (upd y (hz i 3) 1) (hz i 2) (-100006)) (upd (upd m (hz i 3) 1) (hz i 2) (-100006)) := (h.up a3.1 a3.2.1).up a3.2.2.1 a3.2.2.2
  have hl2 : live (upd (upd m (hz i 3) 1) (hz i 2) (-100006)) 0 := (live_up a3.2.2.1 a3.2.2.2).mpr ((live_up a3.1 a3.2.1).mpr hl)
  split
  · exact h2
  rename_i hg
  have htn : tn (m (hz i 2)) < 4 := isG_tn (by simpa using hg)
  generalize upd (upd y (hz i 3) 1) (hz i 2) (-100006) = y2 at h2 ⊢
  generalize upd (upd m (hz i 3) 1) (hz i 2) (-100006) = m2 at h2 hl2 ⊢
  generalize tn (m (hz i 2)) = g at htn ⊢
  rw [h2.r (k := 3) (Or.inl (by decide)), h2.t (by decide) hl2 (f := g) (by omega), h2.r (k := 7) (Or.inl (by decide)), h2.r (k := 8) (Or.inl (by decide))]
  generalize (if m2 7 = 0 then (0 : Int32) else imin (imin (m2 3) (m2 (tz 0 g))) (200 - m2 8)) = ib
  generalize imin (m2 3) (m2 (tz 0 g)) = u
  have t0 : tz 0 g ≠ 12 ∧ tz 0 g ≠ 13 := by simp only [tz]; omega
  have h3 : Sim (upd y2 (tz 0 g) (m2 (tz 0 g) - u)) (upd m2 (tz 0 g) (m2 (tz 0 g) - u)) := h2.up t0.1 t0.2
  generalize upd y2 (tz 0 g) (m2 (tz 0 g) - u) = y3 at h3 ⊢
  generalize upd m2 (tz 0 g) (m2 (tz 0 g) - u) = m3 at h3 ⊢
  rw [h3.r (k := 22 + g) (Or.inl (by omega))]
  have h4 : Sim (upd y3 (22 + g) (m3 (22 + g) + u)) (upd m3 (22 + g) (m3 (22 + g) + u)) := h3.up (by omega) (by omega)
  generalize upd y3 (22 + g) (m3 (22 + g) + u) = y4 at h4 ⊢
  generalize upd m3 (22 + g) (m3 (22 + g) + u) = m4 at h4 ⊢
  rw [h4.r (k := 8) (Or.inl (by decide))]
  have h5 : Sim (upd y4 8 (m4 8 + ib)) (upd m4 8 (m4 8 + ib)) := h4.up (by decide) (by decide)
  rw [h5.r (k := 9) (Or.inl (by decide))]
  exact h5.up (by decide) (by decide)
theorem Sim.short {y m : xV} (h : Sim y m) (hv : IV m) {i : Nat} (hi : i < 4) : Sim (gShort y i) (gShort m i) := by
  unfold gShort
  rw [h.rh hi (f := 2) (by decide), h.rh hi (f := 0) (by decide), h.r (k := 80 + i) (Or.inr (by omega)), h.r (k := 6) (Or.inl (by decide)), h.height]
  by_cases hg : isG (m (hz i 2)) = false
  · rw [if_pos (Or.inl hg), if_pos (Or.inl hg)]; exact h
  have hg : isG (m (hz i 2)) = true := by simpa using hg
  have hl : live m 0 := live0.mpr ((hv.2.2.2.2.2.2.1 i hi).2.2.2.2 hg)
  rw [h.draught (by decide) hl]
  split
  · exact h
  split
  · exact h.burst hi hl
  · exact h.up (by simp only [hz]; omega) (by simp only [hz]; omega)
theorem Sim.shorts {y m : xV} (h : Sim y m) (hv : IV m) : ∀ k, k ≤ 4 → Sim (gShorts y k) (gShorts m k) := by
  intro k
  induction k with
  | zero => intro _; exact h
  | succ k ih => intro hk; rw [gShorts, gShorts]; exact (ih (by omega)).short (hv.shorts k (by omega)) (by omega)
theorem Sim.bursts {y m : xV} (h : Sim y m) (hv : IV m) : Sim (gBursts y) (gBursts m) := by
  unfold gBursts
  rw [h.r (k := 13) (Or.inl (by decide))]
  split
  · exact h
  · exact h.shorts hv 4 (by decide)
/-- the same answer and rows that tell the same -/
def Sam (a b : Int32 × xV) : Prop := a.1 = b.1 ∧ Sim a.2 b.2
theorem Sim.move {y m : xV} (h : Sim y m) {i : Nat} (hi : i < 4) (hl : live m 0) : Sam (gMove y i) (gMove m i) := by
  unfold gMove
  dsimp only
  rw [h.rh hi (f := 2) (by decide)]
  by_cases hg : isG (m (hz i 2)) = false
  · rw [if_pos hg, if_pos hg]; exact ⟨rfl, h⟩
  rw [if_neg hg, if_neg hg]
  have htn : tn (m (hz i 2)) < 4 := isG_tn (by simpa using hg)
  have hO : cOther y i = cOther m i := by
    unfold cOther
    rw [h.rh hi (f := 1) (by decide), h.rh hi (f := 2) (by decide)]
  rw [hO]
  generalize m (hz i 2) = gg at htn ⊢
  generalize tn gg = g at htn ⊢
  rw [h.r (k := 3) (Or.inl (by decide)), h.t (by decide) hl (f := g) (by omega), h.r (k := 14 + g) (Or.inl (by omega))]
  generalize imin (m 3) (imin (m (tz 0 g)) (1000 - m (14 + g))) = u
  by_cases hu : ¬ 0 < u
  · rw [if_pos hu, if_pos hu]; exact ⟨rfl, h⟩
  rw [if_neg hu, if_neg hu]
  have t0 : tz 0 g ≠ 12 ∧ tz 0 g ≠ 13 ∧ hz i 1 ≠ 12 ∧ hz i 1 ≠ 13 ∧ hz i 5 ≠ 12 ∧ hz i 5 ≠ 13 ∧ hz i 4 ≠ 12 ∧ hz i 4 ≠ 13 := by simp only [tz, hz]; omega
  have h2 : Sim (upd (upd y (tz 0 g) (m (tz 0 g) - u)) (hz i 1) gg) (upd (upd m (tz 0 g) (m (tz 0 g) - u)) (hz i 1) gg) := (h.up t0.1 t0.2.1).up t0.2.2.1 t0.2.2.2.1
  generalize upd (upd y (tz 0 g) (m (tz 0 g) - u)) (hz i 1) gg = y2 at h2 ⊢
  generalize upd (upd m (tz 0 g) (m (tz 0 g) - u)) (hz i 1) gg = m2 at h2 ⊢
  split
  · rw [h2.r (k := 18 + g) (Or.inl (by omega))]
    have h3 : Sim (upd y2 (18 + g) (m2 (18 + g) + u)) (upd m2 (18 + g) (m2 (18 + g) + u)) := h2.up (by omega) (by omega)
    rw [h3.rh hi (f := 5) (by decide)]
    exact ⟨rfl, h3.up t0.2.2.2.2.1 t0.2.2.2.2.2.1⟩
  · rw [h2.r (k := 14 + g) (Or.inl (by omega))]
    have h3 : Sim (upd y2 (14 + g) (m2 (14 + g) + u)) (upd m2 (14 + g) (m2 (14 + g) + u)) := h2.up (by omega) (by omega)
    rw [h3.rh hi (f := 4) (by decide)]
    exact ⟨rfl, h3.up t0.2.2.2.2.2.2.1 t0.2.2.2.2.2.2.2⟩
theorem Sim.moves {y m : xV} (h : Sim y m) (hv : IV m) (h13 : m 13 = 1) : ∀ k, k ≤ 4 → Sam (gMoves y k) (gMoves m k) := by
  intro k
  induction k with
  | zero => intro _; exact ⟨rfl, h⟩
  | succ k ih =>
    intro hk
    obtain ⟨i1, i2⟩ := ih (by omega)
    have hl : live (gMoves m k).2 0 := live0.mpr ((hv.moves h13 k (by omega)).1.2)
    obtain ⟨j1, j2⟩ := i2.move (i := k) (by omega) hl
    rw [gMoves, gMoves]
    exact ⟨by show _ + _ = _ + _; rw [i1, j1], j2⟩
theorem Sim.moveU {y m : xV} (h : Sim y m) (hv : IV m) : Sam (gMoveU y) (gMoveU m) := by
  unfold gMoveU
  rw [h.r (k := 13) (Or.inl (by decide)), h.r (k := 7) (Or.inl (by decide)), h.r (k := 6) (Or.inl (by decide)), h.floats]
  by_cases h0 : m 13 = 0
  · rw [if_pos (Or.inl h0), if_pos (Or.inl h0)]; exact ⟨rfl, h⟩
  have h13 : m 13 = 1 := hv.2.2.2.1.resolve_left h0
  rw [h.draught (by decide) (live0.mpr h13)]
  split
  · exact ⟨rfl, h⟩
  · exact h.moves hv h13 4 (by decide)
theorem Sim.hour {y m : xV} (h : Sim y m) (hv : IV m) : Sam (gHour y) (gHour m) := by
  unfold gHour
  dsimp only
  rw [h.r (k := 6) (Or.inl (by decide))]
  have h1 : Sim (upd y 6 (m 6 + 1)) (upd m 6 (m 6 + 1)) := h.up (by decide) (by decide)
  have v1 : IV (upd m 6 (m 6 + 1)) := hv.up (VC.free (Or.inl rfl))
  have h3 := (h1.tear).bursts v1.tear
  have v3 := v1.tear.bursts
  obtain ⟨q1, q2⟩ := h3.moveU v3
  have v4 := v3.moveU.1
  refine ⟨q1, ?_⟩
  show Sim (upd (gMoveU _).2 11 _) (upd (gMoveU _).2 11 _)
  rw [q2.r (k := 11) (Or.inl (by decide)), q2.lateN v4 6 (by decide), q2.r (k := 5) (Or.inl (by decide))]
  exact q2.up (by decide) (by decide)
theorem Sim.hours {y m : xV} (h : Sim y m) (hv : IV m) : ∀ k, Sam (gHours y k) (gHours m k) := by
  intro k
  induction k with
  | zero => exact ⟨rfl, h⟩
  | succ k ih =>
    obtain ⟨i1, i2⟩ := ih
    obtain ⟨j1, j2⟩ := i2.hour (hv.hours k).1
    rw [gHours, gHours]
    exact ⟨by show _ + _ = _ + _; rw [i1, j1], j2⟩
