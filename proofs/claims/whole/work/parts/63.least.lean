/-! the least reach: one course with a hose that stretches, against a course for each reach -/
theorem Ex.hour {i : Nat} {y m : xV} (h : Ex i y m) (hi : i < 4) (hvy : IV y) (hvm : IV m) (hy : ¬ y (80 + i) = 0) (hm : m (80 + i) = 0) (hle : y (hz i 0) ≤ m (hz i 0)) (hb : m (hz i 3) = 0) :
    (Ex i (gHour y).2 (gHour m).2 ∧ (gHour y).2 (hz i 0) ≤ m (hz i 0) ∧ (gHour m).2 (hz i 0) = m (hz i 0) ∧ (gHour m).2 (hz i 3) = 0) ∨ (¬ (gHour m).2 (hz i 3) = 0 ∧ m (hz i 0) < (gHour y).2 (hz i 0)) := by
  have e6 : y 6 = m 6 := h.l hi (Or.inl (by decide))
  have h1 : Ex i (upd y 6 (y 6 + 1)) (upd m 6 (m 6 + 1)) := by rw [e6]; exact h.up
  have h2 := h1.tear hi
  have v1y : IV (gTear (upd y 6 (y 6 + 1))) := (hvy.up (VC.free (Or.inl rfl))).tear
  have v1m : IV (gTear (upd m 6 (m 6 + 1))) := (hvm.up (VC.free (Or.inl rfl))).tear
  have o0 : ∀ z : xV, gTear (upd z 6 (z 6 + 1)) (hz i 0) = z (hz i 0) := fun z => by rw [gTear_o (by simp only [hz]; omega), upd_n (by simp only [hz]; omega)]
  have o3 : ∀ z : xV, gTear (upd z 6 (z 6 + 1)) (hz i 3) = z (hz i 3) := fun z => by rw [gTear_o (by simp only [hz]; omega), upd_n (by simp only [hz]; omega)]
  have o8 : ∀ z : xV, gTear (upd z 6 (z 6 + 1)) (80 + i) = z (80 + i) := fun z => by rw [gTear_o (by omega), upd_n (by omega)]
  have f0 : ∀ z : xV, (gHour z).2 (hz i 0) = gBursts (gTear (upd z 6 (z 6 + 1))) (hz i 0) := fun z => by
    show upd _ 11 _ (hz i 0) = _
    rw [upd_n (by simp only [hz]; omega), gMoveU_o (Or.inr (Or.inr ⟨i, hi, Or.inl rfl⟩))]
  have f3 : ∀ z : xV, (gHour z).2 (hz i 3) = gBursts (gTear (upd z 6 (z 6 + 1))) (hz i 3) := fun z => by
    show upd _ 11 _ (hz i 3) = _
    rw [upd_n (by simp only [hz]; omega), gMoveU_o (Or.inr (Or.inr ⟨i, hi, Or.inr (Or.inr rfl)⟩))]
  have hs := h2.shorts hi (by rw [o8]; exact hy) (by rw [o8]; exact hm) (by rw [o0, o0]; exact hle) (by rw [o3]; exact hb) 4 (by decide)
  rw [gBursts_iv v1y, gBursts_iv v1m, o0] at hs
  rw [f0, f0, f3]
  rcases hs with ⟨a1, a2, a3, a4⟩ | ⟨-, b2, b3⟩
  · left
    refine ⟨?_, a2, a3, a4⟩
    have h4 := (a1.moveU hi).2
    have e11 := h4.l hi (k := 11) (Or.inl (by decide))
    have e5 := h4.l hi (k := 5) (Or.inl (by decide))
    have eL := h4.lateN hi 6 (by decide)
    show Ex i (upd _ 11 _) (upd _ 11 _)
    rw [e11, e5, eL]
    exact h4.up
  · exact Or.inr ⟨b2, b3⟩
theorem reach_up {z : xV} {i k : Nat} (hi : i < 4) (hk : k < 4) : z (hz i 0) ≤ gShort z k (hz i 0) := by
  by_cases e : k = i
  · subst e
    unfold gShort
    by_cases c1 : isG (z (hz k 2)) = false ∨ cHeight z (cDraught z 0) (z 6) ≤ z (hz k 0)
    · rw [if_pos c1]; exact Int32.le_refl _
    rw [if_neg c1]
    by_cases c2 : z (80 + k) = 0
    · rw [if_pos c2, gBurst_oth hi hi (by decide) (Or.inr rfl)]; exact Int32.le_refl _
    · rw [if_neg c2, upd_s]
      exact Int32.le_of_lt (Int32.not_le.mp (fun q => c1 (Or.inr q)))
  · rw [gShort_oth hi hk (by decide) e]; exact Int32.le_refl _
theorem reach_ups {z : xV} {i : Nat} (hi : i < 4) : ∀ k, k ≤ 4 → z (hz i 0) ≤ gShorts z k (hz i 0) := by
  intro k
  induction k with
  | zero => intro _; exact Int32.le_refl _
  | succ k ih => intro hk; rw [gShorts]; exact Int32.le_trans (ih (by omega)) (reach_up hi (by omega))
theorem reach_hour {z : xV} {i : Nat} (hi : i < 4) : z (hz i 0) ≤ (gHour z).2 (hz i 0) := by
  have f0 : (gHour z).2 (hz i 0) = gBursts (gTear (upd z 6 (z 6 + 1))) (hz i 0) := by
    show upd _ 11 _ (hz i 0) = _
    rw [upd_n (by simp only [hz]; omega), gMoveU_o (Or.inr (Or.inr ⟨i, hi, Or.inl rfl⟩))]
  have o0 : gTear (upd z 6 (z 6 + 1)) (hz i 0) = z (hz i 0) := by rw [gTear_o (by simp only [hz]; omega), upd_n (by simp only [hz]; omega)]
  rw [f0]
  unfold gBursts
  split
  · rw [o0]; exact Int32.le_refl _
  · have := reach_ups (z := gTear (upd z 6 (z 6 + 1))) hi 4 (by decide)
    rw [o0] at this
    exact this
theorem burst_up {z : xV} {i k : Nat} (hi : i < 4) (hk : k < 4) (h : ¬ z (hz i 3) = 0) : ¬ gShort z k (hz i 3) = 0 := by
  by_cases e : k = i
  · subst e
    unfold gShort
    split
    · exact h
    split
    · rw [gBurst_3 hi]; decide
    · rw [upd_n (by simp only [hz]; omega)]; exact h
  · rw [gShort_oth hi hk (by decide) e]; exact h
theorem burst_ups {z : xV} {i : Nat} (hi : i < 4) (h : ¬ z (hz i 3) = 0) : ∀ k, k ≤ 4 → ¬ gShorts z k (hz i 3) = 0 := by
  intro k
  induction k with
  | zero => intro _; exact h
  | succ k ih => intro hk; rw [gShorts]; exact burst_up hi (by omega) (ih (by omega))
theorem burst_hour {z : xV} {i : Nat} (hi : i < 4) (h : ¬ z (hz i 3) = 0) : ¬ (gHour z).2 (hz i 3) = 0 := by
  have f3 : (gHour z).2 (hz i 3) = gBursts (gTear (upd z 6 (z 6 + 1))) (hz i 3) := by
    show upd _ 11 _ (hz i 3) = _
    rw [upd_n (by simp only [hz]; omega), gMoveU_o (Or.inr (Or.inr ⟨i, hi, Or.inr (Or.inr rfl)⟩))]
  have o3 : gTear (upd z 6 (z 6 + 1)) (hz i 3) = z (hz i 3) := by rw [gTear_o (by simp only [hz]; omega), upd_n (by simp only [hz]; omega)]
  rw [f3]
  unfold gBursts
  split
  · rw [o3]; exact h
  · exact burst_ups hi (by rw [o3]; exact h) 4 (by decide)
theorem burst_hours {z : xV} {i : Nat} (hi : i < 4) {a : Nat} (h : ¬ (gHours z a).2 (hz i 3) = 0) : ∀ d, ¬ (gHours z (a + d)).2 (hz i 3) = 0 := by
  intro d
  induction d with
  | zero => exact h
  | succ d ih => exact burst_hour hi ih
theorem ff_all {P : Nat → Bool} : ∀ (d k : Nat), (∀ j, k ≤ j → j < k + d → P j = false) → ff P d k = k + d := by
  intro d
  induction d with
  | zero => intro k _; rfl
  | succ d ih =>
    intro k h
    rw [ff, if_neg (by rw [h k (Nat.le_refl _) (by omega)]; decide), ih (k + 1) (fun j h1 h2 => h j (by omega) (by omega))]
    omega
theorem ff_some {P : Nat → Bool} : ∀ (d k j : Nat), k ≤ j → j < k + d → P j = true → ff P d k ≤ j := by
  intro d
  induction d with
  | zero => intro k j h1 h2; omega
  | succ d ih =>
    intro k j h1 h2 hp
    rw [ff]
    split
    · exact h1
    · rename_i c
      have : j ≠ k := fun e => by rw [e] at hp; exact c hp
      exact ih (k + 1) j (by omega) (by omega) hp
theorem sfN_200 {m : xV} {i : Nat} (hi : i < 4) : sfN m i = 200 ↔ (gHours m 200).2 (hz i 3) = 0 := by
  unfold sfN
  constructor
  · intro h
    refine Classical.byContradiction (fun q => ?_)
    have := ff_some (P := fun k => decide (¬ (gHours m (k + 1)).2 (hz i 3) = 0)) 200 0 199 (by decide) (by decide) (by rw [decide_eq_true_eq]; exact q)
    omega
  · intro h
    refine ff_all 200 0 (fun j _ hj => ?_)
    rw [decide_eq_false_iff_not]
    intro q
    have := burst_hours hi q (199 - j)
    rw [show j + 1 + (199 - j) = 200 by omega] at this
    exact this h
/-- hour by hour -/
theorem Ex.hours {i : Nat} {y m : xV} (h : Ex i y m) (hi : i < 4) (hvy : IV y) (hvm : IV m) (hy : ¬ y (80 + i) = 0) (hm : m (80 + i) = 0) (hle : y (hz i 0) ≤ m (hz i 0)) (hb : m (hz i 3) = 0) : ∀ k,
    (Ex i (gHours y k).2 (gHours m k).2 ∧ (gHours y k).2 (hz i 0) ≤ m (hz i 0) ∧ (gHours m k).2 (hz i 0) = m (hz i 0) ∧ (gHours m k).2 (hz i 3) = 0) ∨ (¬ (gHours m k).2 (hz i 3) = 0 ∧ m (hz i 0) < (gHours y k).2 (hz i 0)) := by
  intro k
  induction k with
  | zero => exact Or.inl ⟨h, hle, rfl, hb⟩
  | succ k ih =>
    show (Ex i (gHour (gHours y k).2).2 (gHour (gHours m k).2).2 ∧ _ ∧ (gHour (gHours m k).2).2 (hz i 0) = _ ∧ (gHour (gHours m k).2).2 (hz i 3) = 0) ∨ (¬ (gHour (gHours m k).2).2 (hz i 3) = 0 ∧ _)
    rcases ih with ⟨a1, a2, a3, a4⟩ | ⟨b1, b2⟩
    · have := a1.hour hi (hvy.hours k).1 (hvm.hours k).1 (by rw [gHours_o (by omega)]; exact hy) (by rw [gHours_o (by omega)]; exact hm) (by rw [a3]; exact a2) a4
      rw [a3] at this
      exact this
    · exact Or.inr ⟨burst_hour hi b1, Int32.lt_of_lt_of_le b2 (reach_hour hi)⟩
theorem least_eq {m : xV} {i : Nat} (hi : i < 4) (hv : IV m) (hm : m (80 + i) = 0) (hb : m (hz i 3) = 0) : ff (fun r => decide (sfN (upd m (hz i 0) (nI r)) i = 200)) 101 20 < 121 ∧ (gHours (cStr m i) 200).2 (hz i 0) = nI (ff (fun r => decide (sfN (upd m (hz i 0) (nI r)) i = 200)) 101 20) := by
  have hvy : IV (cStr m i) := by
    unfold cStr
    exact (hv.cg (b := upd m (80 + i) 1) (fun k hk => upd_n (by omega))).up (VC.h0 hi ⟨by decide, by decide⟩)
  have hy : ¬ cStr m i (80 + i) = 0 := by
    unfold cStr
    rw [upd_n (by simp only [hz]; omega), upd_s]; decide
  have h0 : cStr m i (hz i 0) = 20 := by unfold cStr; rw [upd_s]
  obtain ⟨ρ, hr1, hr2, hr⟩ := rgN (lo := 20) (hi := 120) (by decide) (by decide) (((hvy.hours 200).1.2.2.2.2.2.2.1 i hi).1)
  have key : ∀ r, 20 ≤ r → r < 121 → decide (sfN (upd m (hz i 0) (nI r)) i = 200) = decide (ρ ≤ r) := by
    intro r h1 h2
    refine decide_eq_decide.mpr ?_
    have hex : Ex i (cStr m i) (upd m (hz i 0) (nI r)) := fun k hk n1 n2 => by
      unfold cStr
      rw [upd_n n1, upd_n n2, upd_n n1]
    have hvm : IV (upd m (hz i 0) (nI r)) := hv.up (VC.h0 hi (rgM (lo := 20) (hi := 120) h1 (by omega) (by decide)))
    have := hex.hours hi hvy hvm hy (by rw [upd_n (by simp only [hz]; omega)]; exact hm) (by rw [h0, upd_s]; exact nI_le (a := 20) h1 (by omega)) (by rw [upd_n (by simp only [hz]; omega)]; exact hb) 200
    rw [upd_s, hr] at this
    rw [sfN_200 hi]
    rcases this with ⟨-, a2, -, a4⟩ | ⟨b1, b2⟩
    · exact ⟨fun _ => (nI_leI (by omega) (by omega)).mp a2, fun _ => a4⟩
    · refine ⟨fun q => absurd q b1, fun q => ?_⟩
      have := (nI_ltI (by omega) (by omega)).mp b2
      omega
  have e : ff (fun r => decide (sfN (upd m (hz i 0) (nI r)) i = 200)) 101 20 = ρ := by
    rw [ff_cg (Q := fun r => decide (ρ ≤ r)) 101 20 (fun j h1 h2 => key j h1 (by omega))]
    have hle := ff_some (P := fun r => decide (ρ ≤ r)) 101 20 ρ hr1 (by omega) (decide_eq_true (Nat.le_refl _))
    have hge : ∀ (d k : Nat), k ≤ ρ → ρ ≤ k + d → ρ ≤ ff (fun r => decide (ρ ≤ r)) d k := by
      intro d
      induction d with
      | zero => intro k h1 h2; rw [ff]; omega
      | succ d ih =>
        intro k h1 h2
        rw [ff]
        by_cases c : ρ ≤ k
        · rw [if_pos (decide_eq_true c)]; exact c
        · rw [if_neg (by rw [decide_eq_true_eq]; exact c)]
          exact ih (k + 1) (by omega) (by omega)
    have := hge 101 20 hr1 (by omega)
    omega
  rw [e]
  exact ⟨by omega, hr⟩
theorem SimA.least {rs : xR} {p : xV} {un : Nat} {sv : Nat → Int32} {m : xV} (h : SimA rs p un sv m) (hh : Int32) : cLea (rs 0) hh = kLst m hh := by
  unfold cLea kLst
  by_cases c : isG hh = false
  · rw [if_pos c, if_pos c]
  have hi : tn hh < 4 := isG_tn (by simpa using c)
  rw [if_neg c, if_neg c, h.1.1.rh hi (f := 2) (by decide)]
  by_cases c2 : isG (m (hz (tn hh) 2)) = false
  · rw [if_pos c2, if_pos c2]
  rw [if_neg c2, if_neg c2]
  obtain ⟨hS, hI⟩ := h.kept
  have o : ∀ j, j < 100 → xcp m 100 0 80 j = m j := fun j hj => xcp_o (by omega)
  generalize tn hh = i at hi c2 ⊢
  have hz0 : hz i 0 < 50 := hz_lt hi (by decide)
  have hz3 : hz i 3 < 50 := hz_lt hi (by decide)
  have h3 : xcp m 100 0 80 (hz i 3) = 0 := by rw [o _ (by omega)]; exact h.1.2.2.2.2 i hi (by simpa using c2)
  have h8 : xcp m 100 0 80 (80 + i) = 0 := by rw [o _ (by omega)]; exact h.1.2.2.1 i hi
  obtain ⟨l1, l2⟩ := least_eq hi hI h8 h3
  have hvy : IV (cStr (xcp m 100 0 80) i) := by
    unfold cStr
    exact (hI.cg (b := upd (xcp m 100 0 80) (80 + i) 1) (fun k hk => upd_n (by omega))).up (VC.h0 hi ⟨by decide, by decide⟩)
  have hSs : Sim (cStr (rs 0) i) (cStr (xcp m 100 0 80) i) := by
    unfold cStr
    exact (hS.up (by omega) (by omega)).up (by simp only [hz]; omega) (by simp only [hz]; omega)
  have hR := (hSs.hours hvy 200).2.rh hi (f := 0) (by decide)
  rw [hR, l2]
  unfold lrG
  have hlt : ¬ (120 : Int32) < nI (ff (fun r => decide (sfN (upd (xcp m 100 0 80) (hz i 0) (nI r)) i = 200)) 101 20) := Int32.not_lt.mpr (nI_le (b := 120) (by omega) (by decide))
  rw [if_neg hlt, if_neg (by omega)]
