/-! what is told of grades, and counts -/
theorem Sim.uit {y m : xV} (h : Sim y m) (hv : IV m) {g : Nat} (hg : g < 4) {wn : Nat} (hw : wn ≤ 5) (h12 : m 12 = nI wn) : cUIT y g 6 = mUIT m g (wn + 1) := by
  have key : ∀ k, k ≤ wn + 1 → cUIT y g k = mUIT m g k := by
    intro k
    induction k with
    | zero => intro _; rfl
    | succ k ih =>
      intro hk
      show (if cIsT y (nI k) = 0 then cUIT y g k + 0 else cUIT y g k + y (tz k g)) = mUIT m g k + (if mIsT m (nI k) = true then m (tz k g) else 0)
      rw [ih (by omega), h.isT]
      by_cases c : cIsT m (nI k) = 0
      · rw [if_pos c, if_neg (by rw [(isT_b hv _).mp c]; decide)]
      · have c3 : mIsT m (nI k) = true := by
          cases q : mIsT m (nI k)
          · exact absurd ((isT_b hv _).mpr q) c
          · rfl
        rw [if_neg c, if_pos c3, h.t (by omega) (mIsT_live (by omega) c3) (by omega)]
  have tail : ∀ d, wn + 1 + d ≤ 6 → cUIT y g (wn + 1 + d) = cUIT y g (wn + 1) := by
    intro d
    induction d with
    | zero => intro _; rfl
    | succ d ih =>
      intro hd
      have c : cIsT y (nI (wn + 1 + d)) = 0 := by
        rw [h.isT, isT_b hv]
        unfold mIsT
        rw [if_neg (nI_ne0 (by omega) (by omega)), decide_eq_false (show ¬ nI (wn + 1 + d) ≤ m 12 by rw [h12]; exact nI_ge (by omega) (by omega)), Bool.and_false]
      show (if cIsT y (nI (wn + 1 + d)) = 0 then cUIT y g (wn + 1 + d) + 0 else cUIT y g (wn + 1 + d) + y (tz (wn + 1 + d) g)) = _
      rw [if_pos c, Int32.add_zero]
      exact ih (by omega)
  have := tail (5 - wn) (by omega)
  rw [show wn + 1 + (5 - wn) = 6 by omega] at this
  rw [this]
  exact key _ (Nat.le_refl _)
theorem Sim.grade {y m : xV} (h : Sim y m) (hv : IV m) (g w : Int32) : cGrade y g w = kGra m g w := by
  unfold cGrade kGra
  by_cases c1 : isG g = false
  · rw [if_pos c1, if_pos c1]
  have hlt : tn g < 4 := isG_tn (by simpa using c1)
  obtain ⟨wn, -, hw, h12⟩ := rgN (lo := 0) (hi := 5) (by decide) (by decide) hv.2.2.1
  have etn : tn (m 12) = wn := by rw [h12, tn, nI_clamp (by omega)]
  rw [if_neg c1, if_neg c1, h.r (k := 14 + tn g) (Or.inl (by omega)), h.r (k := 18 + tn g) (Or.inl (by omega)), h.r (k := 22 + tn g) (Or.inl (by omega)), h.uit hv hlt hw h12, etn]
  by_cases c2 : inB w 0 3 = true
  · obtain ⟨j, hj, ej, etj⟩ := inB_tn (n := 3) rfl (by decide) c2
    rw [if_neg (show ¬ inB w 0 3 = false by rw [c2]; decide), ej]
    rcases (show j = 0 ∨ j = 1 ∨ j = 2 ∨ j = 3 by omega) with rfl | rfl | rfl | rfl <;> rfl
  · have n : ∀ k, k ≤ 3 → w ≠ nI k := fun k hk q => c2 (by rw [q]; exact (inB_t (fun z => by rcases z with z | z; exact absurd z (nI_pos (by omega)); exact absurd z (nI_nlt (b := k) (a := 3) hk (by decide)))).1)
    rw [if_pos (show inB w 0 3 = false by simpa using c2), if_neg (show ¬ w = 0 from n 0 (by decide)), if_neg (show ¬ w = 1 from n 1 (by decide)), if_neg (show ¬ w = 2 from n 2 (by decide)), if_neg (show ¬ w = 3 from n 3 (by decide))]
theorem Sim.number {y m : xV} (h : Sim y m) (hv : IV m) {w : Int32} (h18 : ¬ w = 18) (h19 : ¬ w = 19) : cNumber y w = kCnt m w := by
  unfold cNumber kCnt
  rw [if_neg h18, if_neg h19]
  rw [h.r (k := 6) (Or.inl (by decide)), h.r (k := 0) (Or.inl (by decide)), h.tide, h.r (k := 12) (Or.inl (by decide)), h.r (k := 13) (Or.inl (by decide)), h.connN, h.burstN, h.r (k := 7) (Or.inl (by decide)), h.r (k := 8) (Or.inl (by decide)), h.r (k := 9) (Or.inl (by decide)), h.r (k := 10) (Or.inl (by decide)), h.r (k := 11) (Or.inl (by decide))]
  rw [← xz_b hv.2.2.2.1, ← xz_b hv.2.2.2.2.1]
  by_cases c2 : inB w 0 6 = true
  · obtain ⟨j, hj, ej, etj⟩ := inB_tn (n := 6) rfl (by decide) c2
    rw [if_pos c2]
    by_cases h6 : j = 6
    · have e6 : w = 6 := by rw [ej, h6]; rfl
      have n6 : ¬ (0 ≤ w ∧ w < 6) := by rw [e6]; decide
      rw [if_neg n6, if_pos e6, etj, h6]
    · have y6 : 0 ≤ w ∧ w < 6 := by
        rw [ej]
        exact ⟨nI_pos' (by omega), nI_lt (a := j) (b := 6) (by omega) (by decide)⟩
      rw [if_pos y6, h.r (k := tn w) (Or.inl (by omega))]
  · have n6 : ¬ (0 ≤ w ∧ w < 6) := fun q => c2 (inB_t (fun z => by
      rcases z with z | z
      · exact Int32.not_lt.mpr q.1 z
      · exact Int32.not_lt.mpr (Int32.le_of_lt q.2) z)).1
    have e6 : ¬ w = 6 := fun q => c2 (by rw [q]; rfl)
    rw [if_neg n6, if_neg e6, if_neg c2]
