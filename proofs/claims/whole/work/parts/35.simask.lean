/-! what is told of tankers and hoses -/
theorem isT_b {m : xV} (hv : IV m) (p : Int32) : cIsT m p = 0 ↔ mIsT m p = false := by
  unfold cIsT mIsT
  by_cases h0 : p = 0
  · rw [if_pos h0, if_pos h0]
    rcases hv.2.2.2.1 with q | q <;> (rw [q]; decide)
  · rw [if_neg h0, if_neg h0]
    have e1 : 0 < p ↔ 1 ≤ p := by
      rw [i_lt, i_le]
      have z0 : (0 : Int32).toInt = 0 := rfl
      have z1 : (1 : Int32).toInt = 1 := rfl
      rw [z0, z1]; omega
    have e2 : p ≤ m 12 → p < 6 := by
      intro q
      have := Int32.le_trans q hv.2.2.1.2
      rw [i_le] at this
      rw [i_lt]
      have z5 : (5 : Int32).toInt = 5 := rfl
      have z6 : (6 : Int32).toInt = 6 := rfl
      rw [z5] at this; rw [z6]; omega
    have hb : ∀ b : Bool, bI b = 0 ↔ b = false := by decide
    rw [hb]
    by_cases q1 : 1 ≤ p
    · by_cases q2 : p ≤ m 12
      · simp [q1, q2, e1.mpr q1, e2 q2]
      · simp [q2]
    · have q0 : ¬ 0 < p := fun z => q1 (e1.mp z)
      simp [q0, q1]
theorem mIsT_live {m : xV} {k : Nat} (hk : k < 6) (h : mIsT m (nI k) = true) : live m k := by
  unfold mIsT at h
  unfold live
  by_cases h0 : k = 0
  · subst h0
    rw [if_pos rfl]
    rw [if_pos (show nI 0 = 0 from rfl)] at h
    exact of_decide_eq_true h
  · rw [if_neg h0]
    rw [if_neg (nI_ne0 (by omega) (by omega))] at h
    simp only [Bool.and_eq_true, decide_eq_true_eq] at h
    exact h.2
theorem Sim.tanker {y m : xV} (h : Sim y m) (hv : IV m) (p w : Int32) : cTanker y p w = kTan m p w := by
  unfold cTanker kTan
  by_cases c1 : w < 0 ∨ 7 < w
  · rw [if_pos c1, if_pos (inB_f c1)]
  obtain ⟨b1, r1⟩ := inB_t c1
  rw [if_neg c1, if_neg (show ¬ inB w 0 7 = false by rw [b1]; decide), h.isT]
  by_cases c2 : cIsT m p = 0
  · rw [if_pos c2, if_pos ((isT_b hv p).mp c2)]
  have c3 : mIsT m p = true := by
    cases q : mIsT m p
    · exact absurd ((isT_b hv p).mpr q) c2
    · rfl
  rw [if_neg c2, if_neg (show ¬ mIsT m p = false by rw [c3]; decide)]
  obtain ⟨k, hk, ek, etk⟩ := mIsT_tn hv c3
  have hl : live m k := mIsT_live hk (by rw [← ek]; exact c3)
  rw [etk, h.draught hk hl, h.height, h.floats, h.r (k := 6) (Or.inl (by decide)), h.t hk hl (f := 4) (by decide)]
  obtain ⟨j, hj, ej, etj⟩ := inB_tn (n := 7) rfl (by decide) b1
  rw [etj]
  by_cases d4 : w = 4
  · rw [if_pos d4, if_pos d4]
  by_cases d5 : w = 5
  · rw [if_neg d4, if_neg d4, if_pos d5, if_pos d5]
  by_cases d6 : w = 6
  · rw [if_neg d4, if_neg d4, if_neg d5, if_neg d5, if_pos d6, if_pos d6]
  by_cases d7 : w = 7
  · rw [if_neg d4, if_neg d4, if_neg d5, if_neg d5, if_neg d6, if_neg d6, if_pos d7, if_pos d7]
  rw [if_neg d4, if_neg d4, if_neg d5, if_neg d5, if_neg d6, if_neg d6, if_neg d7, if_neg d7]
  have n4 : j ≠ 4 := fun q => d4 (by rw [ej, q]; rfl)
  have n5 : j ≠ 5 := fun q => d5 (by rw [ej, q]; rfl)
  have n6 : j ≠ 6 := fun q => d6 (by rw [ej, q]; rfl)
  have n7 : j ≠ 7 := fun q => d7 (by rw [ej, q]; rfl)
  exact h.t hk hl (by omega)
theorem Sim.hose {y m : xV} (h : Sim y m) (hv : IV m) (hh w : Int32) : cHose y hh w = kHos m hh w := by
  unfold cHose kHos
  by_cases c1 : isG hh = false
  · rw [if_pos c1, if_pos c1]
  have hlt : tn hh < 4 := isG_tn (by simpa using c1)
  rw [if_neg c1, if_neg c1, h.rh hlt (f := 0) (by decide), h.rh hlt (f := 1) (by decide), h.rh hlt (f := 2) (by decide), h.rh hlt (f := 3) (by decide), h.rh hlt (f := 4) (by decide), h.rh hlt (f := 5) (by decide)]
  rw [← xz_b (hv.2.2.2.2.2.2.1 _ hlt).2.2.2.1]
  by_cases c2 : inB w 0 5 = true
  · rw [if_pos c2]
    obtain ⟨j, hj, ej, etj⟩ := inB_tn (n := 5) rfl (by decide) c2
    rw [etj, ej]
    rcases (show j = 0 ∨ j = 1 ∨ j = 2 ∨ j = 3 ∨ j = 4 ∨ j = 5 by omega) with rfl | rfl | rfl | rfl | rfl | rfl <;> rfl
  · rw [if_neg c2]
    have n : ∀ k, k ≤ 5 → w ≠ nI k := fun k hk q => c2 (by rw [q]; exact (inB_t (fun z => by rcases z with z | z; exact absurd z (nI_pos (by omega)); exact absurd z (nI_nlt (b := k) (a := 5) hk (by decide)))).1)
    rw [if_neg (show ¬ w = 0 from n 0 (by decide)), if_neg (show ¬ w = 1 from n 1 (by decide)), if_neg (show ¬ w = 2 from n 2 (by decide)), if_neg (show ¬ w = 3 from n 3 (by decide)), if_neg (show ¬ w = 4 from n 4 (by decide)), if_neg (show ¬ w = 5 from n 5 (by decide))]
