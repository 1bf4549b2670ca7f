/-! an hour keeps it; and leaves alone what it leaves alone -/
theorem live0 {z : xV} : live z 0 ↔ z 13 = 1 := by unfold live; rw [if_pos rfl]
theorem IV.tear {z : xV} (h : IV z) : IV (gTear z) := by
  unfold gTear
  split
  · exact h
  · refine IV.up (IV.up (IV.up h (VC.laid (Or.inl rfl))) (VC.free (Or.inr (Or.inl rfl)))) (VC.held ⟨by decide, by decide⟩)
theorem imin_rg {a b : Int32} {m n : Nat} (ha : a = nI m) (hb : b = nI n) (hm : m < 2147483648) (hn : n < 2147483648) : imin a b = nI (min m n) := by
  subst ha; subst hb
  unfold imin
  by_cases h : nI n < nI m
  · rw [if_pos h]
    have := (nI_ltI hn hm).mp h
    rw [Nat.min_eq_right (by omega)]
  · rw [if_neg h]
    have : ¬ n < m := fun q => h ((nI_ltI hn hm).mpr q)
    rw [Nat.min_eq_left (by omega)]
theorem gvN : gv (-100006) := Or.inl rfl
theorem isG_N : isG (-100006) = false := by decide
theorem IV.burst {z : xV} (h : IV z) {i : Nat} (hi : i < 4) (h13 : z 13 = 1) : IV (gBurst z i) := by
  unfold gBurst
  dsimp only
  have h1 : IV (upd z (hz i 3) 1) := h.up (VC.h3 hi (Or.inr rfl))
  have h2 : IV (upd (upd z (hz i 3) 1) (hz i 2) (-100006)) := h1.up (VC.h2 hi gvN (fun q => absurd q (by decide)))
  split
  · exact h2
  rename_i hg
  have hg : isG (z (hz i 2)) = true := by simpa using hg
  have hl : live (upd (upd z (hz i 3) 1) (hz i 2) (-100006)) 0 := by
    rw [live0, upd_n (by simp only [hz]; omega), upd_n (by simp only [hz]; omega)]; exact h13
  generalize hg' : z (hz i 2) = g at hg ⊢
  generalize upd (upd z (hz i 3) 1) (hz i 2) (-100006) = y at h2 hl ⊢
  have htn : tn g < 4 := isG_tn hg
  obtain ⟨r, r1, r2, er⟩ := rgN (lo := 1) (hi := 40) (by decide) (by decide) h2.1.2.2.2.1
  obtain ⟨t, -, t2, et⟩ := rgN (lo := 0) (hi := 400) (by decide) (by decide) (h2.2.2.2.2.2.2.2 0 (by decide) hl _ htn)
  obtain ⟨e, -, e2, ee⟩ := rgN (lo := 0) (hi := 200) (by decide) (by decide) h2.2.1
  have eu := imin_rg er et (by omega) (by omega)
  have eb : (if y 7 = 0 then (0 : Int32) else imin (imin (y 3) (y (tz 0 (tn g)))) (200 - y 8)) = nI (if y 7 = 0 then 0 else min (min r t) (200 - e)) := by
    split
    · rfl
    · exact imin_rg eu (by rw [ee, show (200 : Int32) = nI 200 from rfl, pk_sub e2]) (by omega) (by omega)
  rw [eb, eu]
  have hb2 : (if y 7 = 0 then 0 else min (min r t) (200 - e)) ≤ 200 - e := by split <;> omega
  generalize (if y 7 = 0 then 0 else min (min r t) (200 - e)) = b at hb2 ⊢
  refine IV.up (IV.up (IV.up (IV.up h2 (VC.unit (by decide) htn (fun _ => ?_))) (VC.free ?_)) (VC.held ?_)) (VC.free (Or.inr (Or.inl rfl)))
  · rw [et, pk_sub (by omega)]
    exact rgM (lo := 0) (hi := 400) (by omega) (by omega) (by decide)
  · right; right; right; right; left; omega
  · rw [upd_n (by omega), upd_n (by simp only [tz]; omega), ee, nI_add]
    exact rgM (lo := 0) (hi := 200) (by omega) (by omega) (by decide)
theorem gBurst_o {z : xV} {i k : Nat} (hi : i < 4) (hk : k < 7 ∨ (9 < k ∧ k < 22) ∨ 80 ≤ k) : gBurst z i k = z k := by
  unfold gBurst
  dsimp only
  split
  · rw [upd_n (by simp only [hz]; omega), upd_n (by simp only [hz]; omega)]
  rename_i hg
  have hg : isG (z (hz i 2)) = true := by simpa using hg
  have htn : tn (z (hz i 2)) < 4 := isG_tn hg
  rw [upd_n (by omega), upd_n (by omega), upd_n (by omega), upd_n (by simp only [tz]; omega), upd_n (by simp only [hz]; omega), upd_n (by simp only [hz]; omega)]
theorem IV.short {z : xV} (h : IV z) {i : Nat} (hi : i < 4) : IV (gShort z i) := by
  unfold gShort
  split
  · exact h
  rename_i hc
  have hg : isG (z (hz i 2)) = true := by
    cases q : isG (z (hz i 2))
    · exact absurd (Or.inl q) hc
    · rfl
  have h13 := (h.2.2.2.2.2.2.1 i hi).2.2.2.2 hg
  split
  · exact h.burst hi h13
  · refine h.up (VC.h0 hi ?_)
    obtain ⟨d, d1, d2, e⟩ := h.draught (p := 0) (by decide) (live0.mpr h13)
    have hr := (rgI.mp (h.2.2.2.2.2.2.1 i hi).1).1
    have hb := (h.height (z 6) d1 d2).2
    rw [← e] at hb
    have hgt : ¬ cHeight z (cDraught z 0) (z 6) ≤ z (hz i 0) := fun q => hc (Or.inr q)
    rw [i_le] at hgt
    rw [rgI]
    have e20 : (20 : Int32).toInt = 20 := rfl
    have e120 : (120 : Int32).toInt = 120 := rfl
    omega
theorem gShort_o {z : xV} {i k : Nat} (hi : i < 4) (hk : k < 7 ∨ (9 < k ∧ k < 22) ∨ 80 ≤ k) : gShort z i k = z k := by
  unfold gShort
  split
  · rfl
  split
  · exact gBurst_o hi hk
  · rw [upd_n (by simp only [hz]; omega)]
theorem IV.shorts {z : xV} (h : IV z) : ∀ k, k ≤ 4 → IV (gShorts z k) := by
  intro k
  induction k with
  | zero => intro _; exact h
  | succ k ih => intro hk; rw [gShorts]; exact (ih (by omega)).short (by omega)
theorem gShorts_o {z : xV} {j : Nat} (hj : j < 7 ∨ (9 < j ∧ j < 22) ∨ 80 ≤ j) : ∀ k, k ≤ 4 → gShorts z k j = z j := by
  intro k
  induction k with
  | zero => intro _; rfl
  | succ k ih => intro hk; rw [gShorts, gShort_o (by omega) hj]; exact ih (by omega)
theorem IV.bursts {z : xV} (h : IV z) : IV (gBursts z) := by
  unfold gBursts
  split
  · exact h
  · exact h.shorts 4 (by decide)
theorem gBursts_o {z : xV} {j : Nat} (hj : j < 7 ∨ (9 < j ∧ j < 22) ∨ 80 ≤ j) : gBursts z j = z j := by
  unfold gBursts
  split
  · rfl
  · exact gShorts_o hj 4 (by decide)
theorem gTear_o {z : xV} {j : Nat} (hj : j < 7 ∨ 9 < j) : gTear z j = z j := by
  unfold gTear
  split
  · rfl
  · rw [upd_n (by omega), upd_n (by omega), upd_n (by omega)]
/-- what a hose can move -/
theorem IV.move {z : xV} (h : IV z) {i : Nat} (hi : i < 4) (h13 : z 13 = 1) : IV (gMove z i).2 ∧ ∃ u, u ≤ 40 ∧ (gMove z i).1 = nI u := by
  unfold gMove
  dsimp only
  split
  · exact ⟨h, 0, by omega, rfl⟩
  rename_i hg
  have hg : isG (z (hz i 2)) = true := by simpa using hg
  have hl : live z 0 := live0.mpr h13
  generalize z (hz i 2) = g at hg ⊢
  have htn : tn g < 4 := isG_tn hg
  obtain ⟨r, r1, r2, er⟩ := rgN (lo := 1) (hi := 40) (by decide) (by decide) h.1.2.2.2.1
  obtain ⟨t, -, t2, et⟩ := rgN (lo := 0) (hi := 400) (by decide) (by decide) (h.2.2.2.2.2.2.2 0 (by decide) hl _ htn)
  obtain ⟨e, -, e2, ee⟩ := rgN (lo := 0) (hi := 1000) (by decide) (by decide) (h.2.2.2.2.2.1 _ htn)
  have eu : imin (z 3) (imin (z (tz 0 (tn g))) (1000 - z (14 + tn g))) = nI (min r (min t (1000 - e))) :=
    imin_rg er (imin_rg et (by rw [ee, show (1000 : Int32) = nI 1000 from rfl, pk_sub e2]) (by omega) (by omega)) (by omega) (by omega)
  rw [eu]
  split
  · exact ⟨h, 0, by omega, rfl⟩
  have h1 : IV (upd z (tz 0 (tn g)) (z (tz 0 (tn g)) - nI (min r (min t (1000 - e))))) := h.up (VC.unit (by decide) htn (fun _ => by
    rw [et, pk_sub (by omega)]
    exact rgM (lo := 0) (hi := 400) (by omega) (by omega) (by decide)))
  have h2 := h1.up (VC.h1 (v := g) hi (Or.inr hg))
  split
  · exact ⟨IV.up (IV.up h2 (VC.free (by right; right; right; right; left; omega))) (VC.free (by right; right; right; right; right; left; exact ⟨i, hi, Or.inr rfl⟩)), 0, by omega, rfl⟩
  · refine ⟨IV.up (IV.up h2 (VC.tank htn ?_)) (VC.free (by right; right; right; right; right; left; exact ⟨i, hi, Or.inl rfl⟩)), _, by omega, rfl⟩
    rw [upd_n (by simp only [hz]; omega), upd_n (by simp only [tz]; omega), ee, nI_add]
    exact rgM (lo := 0) (hi := 1000) (by omega) (by omega) (by decide)
theorem gMove_o {z : xV} {i k : Nat} (hi : i < 4) (hk : k < 14 ∨ 80 ≤ k ∨ (∃ j, j < 4 ∧ (k = hz j 0 ∨ k = hz j 2 ∨ k = hz j 3))) : (gMove z i).2 k = z k := by
  unfold gMove
  dsimp only
  split
  · rfl
  rename_i hg
  have hg : isG (z (hz i 2)) = true := by simpa using hg
  have htn : tn (z (hz i 2)) < 4 := isG_tn hg
  split
  · rfl
  have key : ∀ T : Nat, T < 4 → k ≠ tz 0 T ∧ k ≠ hz i 1 ∧ k ≠ 18 + T ∧ k ≠ hz i 5 ∧ k ≠ 14 + T ∧ k ≠ hz i 4 := by
    intro T hT
    simp only [hz, tz]
    rcases hk with hk | hk | ⟨j, hj, hk | hk | hk⟩ <;> (try simp only [hz] at hk) <;> omega
  obtain ⟨a1, a2, a3, a4, a5, a6⟩ := key _ htn
  split
  · show upd _ _ _ k = _
    rw [upd_n a4, upd_n a3, upd_n a2, upd_n a1]
  · show upd _ _ _ k = _
    rw [upd_n a6, upd_n a5, upd_n a2, upd_n a1]
theorem IV.moves {z : xV} (h : IV z) (h13 : z 13 = 1) : ∀ k, k ≤ 4 → (IV (gMoves z k).2 ∧ (gMoves z k).2 13 = 1) ∧ ∃ u, u ≤ 40 * k ∧ (gMoves z k).1 = nI u := by
  intro k
  induction k with
  | zero => intro _; exact ⟨⟨h, h13⟩, 0, by omega, rfl⟩
  | succ k ih =>
    intro hk
    obtain ⟨⟨i1, i2⟩, u, u1, u2⟩ := ih (by omega)
    obtain ⟨m1, w, w1, w2⟩ := i1.move (i := k) (by omega) i2
    rw [gMoves]
    exact ⟨⟨m1, by rw [gMove_o (by omega) (Or.inl (by decide))]; exact i2⟩, u + w, by omega, by rw [u2, w2, nI_add]⟩
theorem gMoves_o {z : xV} {j : Nat} (hj : j < 14 ∨ 80 ≤ j ∨ (∃ i, i < 4 ∧ (j = hz i 0 ∨ j = hz i 2 ∨ j = hz i 3))) : ∀ k, k ≤ 4 → (gMoves z k).2 j = z j := by
  intro k
  induction k with
  | zero => intro _; rfl
  | succ k ih => intro hk; rw [gMoves]; exact (gMove_o (by omega) hj).trans (ih (by omega))
theorem xz_ne {x : Int32} (h : xz x) (h0 : ¬ x = 0) : x = 1 := h.resolve_left h0
theorem IV.moveU {z : xV} (h : IV z) : IV (gMoveU z).2 ∧ ∃ u, u ≤ 160 ∧ (gMoveU z).1 = nI u := by
  unfold gMoveU
  split
  · exact ⟨h, 0, by omega, rfl⟩
  · rename_i hc
    have h13 : z 13 = 1 := xz_ne h.2.2.2.1 (fun q => hc (Or.inl q))
    obtain ⟨m1, m2⟩ := h.moves h13 4 (by decide)
    exact ⟨m1.1, m2⟩
theorem gMoveU_o {z : xV} {j : Nat} (hj : j < 14 ∨ 80 ≤ j ∨ (∃ i, i < 4 ∧ (j = hz i 0 ∨ j = hz i 2 ∨ j = hz i 3))) : (gMoveU z).2 j = z j := by
  unfold gMoveU
  split
  · rfl
  · exact gMoves_o hj 4 (by decide)
theorem IV.hour {z : xV} (h : IV z) : IV (gHour z).2 ∧ ∃ u, u ≤ 160 ∧ (gHour z).1 = nI u := by
  have h1 : IV (upd z 6 (z 6 + 1)) := h.up (VC.free (Or.inl rfl))
  obtain ⟨m1, m2⟩ := h1.tear.bursts.moveU
  exact ⟨m1.up (VC.free (Or.inr (Or.inr (Or.inr (Or.inl rfl))))), m2⟩
theorem gHour_o {z : xV} {j : Nat} (hj : j < 6 ∨ j = 10 ∨ j = 12 ∨ j = 13 ∨ 80 ≤ j) : (gHour z).2 j = z j := by
  show upd _ 11 _ j = _
  rw [upd_n (by omega), gMoveU_o ((show j < 14 ∨ 80 ≤ j by omega).elim Or.inl (fun q => Or.inr (Or.inl q))), gBursts_o (by omega), gTear_o (by omega), upd_n (by omega)]
theorem gHour_6 {z : xV} : (gHour z).2 6 = z 6 + 1 := by
  unfold gHour
  dsimp only
  rw [upd_n (by omega), gMoveU_o (Or.inl (by omega)), gBursts_o (by omega), gTear_o (by omega), upd_s]
theorem IV.hours {z : xV} (h : IV z) : ∀ k, IV (gHours z k).2 ∧ ∃ u, u ≤ 160 * k ∧ (gHours z k).1 = nI u := by
  intro k
  induction k with
  | zero => exact ⟨h, 0, by omega, rfl⟩
  | succ k ih =>
    obtain ⟨i1, u, u1, u2⟩ := ih
    obtain ⟨m1, w, w1, w2⟩ := i1.hour
    rw [gHours]
    exact ⟨m1, u + w, by omega, by rw [u2, w2, nI_add]⟩
theorem gHours_o {z : xV} {j : Nat} (hj : j < 6 ∨ j = 10 ∨ j = 12 ∨ j = 13 ∨ 80 ≤ j) : ∀ k, (gHours z k).2 j = z j := by
  intro k
  induction k with
  | zero => rfl
  | succ k ih => rw [gHours]; exact (gHour_o hj).trans ih
theorem gHours_6 {z : xV} {h : Nat} (hh : z 6 = nI h) : ∀ k, (gHours z k).2 6 = nI (h + k) := by
  intro k
  induction k with
  | zero => exact hh
  | succ k ih => rw [gHours]; show (gHour _).2 6 = _; rw [gHour_6, ih, nI_1]; rfl
