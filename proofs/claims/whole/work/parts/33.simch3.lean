/-! leaving, berthing -/
theorem noconn {m : xV} (h : ¬ 0 < cConnN m) : ∀ i, i < 4 → isG (m (hz i 2)) = false := by
  unfold cConnN at h
  have key : ∀ a b c d : Bool, ¬ 0 < (0 + bI a + bI b + bI c + bI d : Int32) → a = false ∧ b = false ∧ c = false ∧ d = false := by decide
  obtain ⟨a, b, c, d⟩ := key _ _ _ _ h
  intro i hi
  rcases (show i = 0 ∨ i = 1 ∨ i = 2 ∨ i = 3 by omega) with rfl | rfl | rfl | rfl
  · exact a
  · exact b
  · exact c
  · exact d
theorem live_leave {m : xV} {p : Nat} (hl : live (upd m 13 0) p) : live m p := by
  unfold live at hl ⊢
  rw [upd_s, upd_n (show 12 ≠ 13 by decide)] at hl
  by_cases h0 : p = 0
  · rw [if_pos h0] at hl; exact absurd hl (by decide)
  · rw [if_neg h0] at hl ⊢; exact hl
theorem IV.leave {m : xV} (h : IV m) (hc : ¬ 0 < cConnN m) : IV (upd m 13 0) := by
  obtain ⟨⟨a0, a1, a2, a3, a4, a5⟩, a8, a12, a13, a7, aS, aH, aT⟩ := h
  have e : ∀ k, k ≠ 13 → upd m 13 0 k = m k := fun k hk => upd_n hk
  refine ⟨⟨by rw [e 0 (by omega)]; exact a0, by rw [e 1 (by omega)]; exact a1, by rw [e 2 (by omega)]; exact a2, by rw [e 3 (by omega)]; exact a3, by rw [e 4 (by omega)]; exact a4, by rw [e 5 (by omega)]; exact a5⟩, by rw [e 8 (by omega)]; exact a8, by rw [e 12 (by omega)]; exact a12, by rw [upd_s]; exact Or.inl rfl, by rw [e 7 (by omega)]; exact a7, fun g hg => by rw [e _ (by omega)]; exact aS g hg, fun i hi => ?_, fun p hp hl g hg => ?_⟩
  · rw [e (hz i 0) (by simp only [hz]; omega), e (hz i 1) (by simp only [hz]; omega), e (hz i 2) (by simp only [hz]; omega), e (hz i 3) (by simp only [hz]; omega)]
    obtain ⟨b0, b1, b2, b3, b4⟩ := aH i hi
    exact ⟨b0, b1, b2, b3, fun q => by rw [noconn hc i hi] at q; cases q⟩
  · rw [e _ (by simp only [tz]; omega)]
    exact aT p hp (live_leave hl) g hg
theorem Sim.leave {y m : xV} (h : Sim y m) (hv : IV m) : Dn (gLeave y) (eLea m) (aLea m) y := by
  unfold gLeave
  rw [h.r (k := 13) (Or.inl (by decide)), h.r (k := 6) (Or.inl (by decide)), h.floats, h.connN]
  by_cases c0 : m 13 = 0
  · exact Dn.no (v := -100005) (by unfold eLea; rw [if_pos (Or.inl c0)]) (by decide) (by decide) (by rw [if_pos (Or.inl c0)])
  have d13 : m 13 = 1 := hv.2.2.2.1.resolve_left c0
  have hl := live0.mpr d13
  rw [h.draught (by decide) hl]
  by_cases c1 : m 13 = 0 ∨ cFloats m (cDraught m 0) (m 6) = false ∨ 0 < cConnN m
  · exact Dn.no (v := -100005) (by unfold eLea; rw [if_pos c1]) (by decide) (by decide) (by rw [if_pos c1])
  rw [if_neg c1]
  dsimp only
  have eu : cUnits (upd y 13 0) 0 = cUnits m 0 := by
    rw [← h.units (by decide) hl]
    unfold cUnits
    rw [upd_n (by decide), upd_n (by decide), upd_n (by decide), upd_n (by decide)]
  obtain ⟨u, hu, e⟩ := hv.units (p := 0) (by decide) hl
  refine Or.inr ⟨by unfold eLea; rw [if_neg c1], ⟨eu, fun j hj => upd_eq2 (h.1 j hj), fun p hp hl2 f hf => upd_eq2 (h.2 p hp (live_leave hl2) f hf)⟩, ?_, hv.leave (fun q => c1 (Or.inr (Or.inr q)))⟩
  show isErr (cUnits (upd y 13 0) 0) = false
  rw [eu, e]; exact ok_nI (by omega)
theorem gRot_o2 {z : xV} {k : Nat} (h : k < 50 ∨ 80 ≤ k) : gRot z k = z k := by
  unfold gRot
  rw [if_neg (by omega), if_neg (by omega)]
theorem gRot_t {z : xV} {p f : Nat} (hp : p < 5) (hf : f < 5) : gRot z (tz p f) = z (tz (p + 1) f) := by
  unfold gRot
  have : tz p f + 5 = tz (p + 1) f := by simp only [tz]; omega
  rw [if_pos (by simp only [tz]; omega), this]
theorem xcp_t {z : xV} {p f : Nat} (hp : p < 5) (hf : f < 5) : xcp z 50 55 25 (tz p f) = z (tz (p + 1) f) := by
  have e1 : tz p f = 50 + (5 * p + f) := by simp only [tz]; omega
  have e2 : tz (p + 1) f = 55 + (5 * p + f) := by simp only [tz]; omega
  rw [e1, e2, xcp_i (by omega)]
theorem live_berth {m b : xV} {wn : Nat} (hw : wn + 1 ≤ 5) (h12 : m 12 = nI (wn + 1)) (b12 : b 12 = nI wn) {p : Nat} (hp : p < 6) (hl : live b p) : p < 5 ∧ live m (p + 1) := by
  unfold live at hl ⊢
  rw [if_neg (by omega), h12]
  by_cases h0 : p = 0
  · subst h0; exact ⟨by omega, nI_le (by omega) (by omega)⟩
  · rw [if_neg h0, b12] at hl
    have := (nI_leI (by omega) (by omega)).mp hl
    exact ⟨by omega, nI_le (by omega) (by omega)⟩
theorem mBer_eq {m : xV} {wn : Nat} (h12 : m 12 = nI (wn + 1)) : (mBer m).2 = upd (upd (xcp m 50 55 25) 12 (nI wn)) 13 1 := by
  unfold mBer
  dsimp only
  rw [xcp_o (by omega), h12, nI_pred]
theorem IV.berth {m : xV} (h : IV m) {wn : Nat} (hw : wn + 1 ≤ 5) (h12 : m 12 = nI (wn + 1)) (h13 : m 13 = 0) : IV (upd (upd (xcp m 50 55 25) 12 (nI wn)) 13 1) := by
  obtain ⟨⟨a0, a1, a2, a3, a4, a5⟩, a8, a12, a13, a7, aS, aH, aT⟩ := h
  have e : ∀ k, k < 50 → k ≠ 12 → k ≠ 13 → upd (upd (xcp m 50 55 25) 12 (nI wn)) 13 1 k = m k := fun k hk k1 k2 => by rw [upd_n k2, upd_n k1, xcp_o (by omega)]
  have b12 : upd (upd (xcp m 50 55 25) 12 (nI wn)) 13 1 12 = nI wn := by rw [upd_n (by decide), upd_s]
  refine ⟨⟨by rw [e 0 (by omega) (by omega) (by omega)]; exact a0, by rw [e 1 (by omega) (by omega) (by omega)]; exact a1, by rw [e 2 (by omega) (by omega) (by omega)]; exact a2, by rw [e 3 (by omega) (by omega) (by omega)]; exact a3, by rw [e 4 (by omega) (by omega) (by omega)]; exact a4, by rw [e 5 (by omega) (by omega) (by omega)]; exact a5⟩, by rw [e 8 (by omega) (by omega) (by omega)]; exact a8, by rw [b12]; exact rgM (lo := 0) (hi := 5) (by omega) (by omega) (by decide), by rw [upd_s]; exact Or.inr rfl, by rw [e 7 (by omega) (by omega) (by omega)]; exact a7, fun g hg => by rw [e _ (by omega) (by omega) (by omega)]; exact aS g hg, fun i hi => ?_, fun p hp hl g hg => ?_⟩
  · rw [e (hz i 0) (by simp only [hz]; omega) (by simp only [hz]; omega) (by simp only [hz]; omega), e (hz i 1) (by simp only [hz]; omega) (by simp only [hz]; omega) (by simp only [hz]; omega), e (hz i 2) (by simp only [hz]; omega) (by simp only [hz]; omega) (by simp only [hz]; omega), e (hz i 3) (by simp only [hz]; omega) (by simp only [hz]; omega) (by simp only [hz]; omega), upd_s]
    obtain ⟨b0, b1, b2, b3, b4⟩ := aH i hi
    exact ⟨b0, b1, b2, b3, fun _ => rfl⟩
  · obtain ⟨p5, pl⟩ := live_berth hw h12 b12 hp hl
    rw [upd_n (by simp only [tz]; omega), upd_n (by simp only [tz]; omega), xcp_t p5 (by omega)]
    exact aT (p + 1) (by omega) pl g hg
theorem Sim.berth {y m : xV} (h : Sim y m) (hv : IV m) : Dn (gBerth y) (eBer m) (mBer m) y := by
  unfold gBerth
  rw [h.r (k := 12) (Or.inl (by decide)), h.r (k := 13) (Or.inl (by decide)), h.r (k := 6) (Or.inl (by decide)), h.floats]
  by_cases c0 : m 12 = 0
  · exact Dn.no (v := -100005) (by unfold eBer; rw [if_pos (Or.inl c0)]) (by decide) (by decide) (by rw [if_pos (Or.inl c0)])
  obtain ⟨w, -, hw5, hw⟩ := rgN (lo := 0) (hi := 5) (by decide) (by decide) hv.2.2.1
  obtain ⟨wn, rfl⟩ : ∃ k, w = k + 1 := ⟨w - 1, by
    rcases Nat.eq_zero_or_pos w with q | q
    · exact absurd (by rw [hw, q]; rfl) c0
    · omega⟩
  have l1 : live m 1 := by
    unfold live
    rw [if_neg (by decide), hw]
    exact nI_le (by omega) (by omega)
  rw [h.draught (by decide) l1]
  have ez : m 13 = 1 ↔ ¬ m 13 = 0 := by
    rcases hv.2.2.2.1 with q | q <;> (rw [q]; decide)
  by_cases c1 : m 12 = 0 ∨ ¬ m 13 = 0 ∨ cFloats m (cDraught m 1) (m 6) = false
  · exact Dn.no (v := -100005) (by unfold eBer; rw [if_pos (c1.imp_right (fun q => q.imp_left ez.mpr))]) (by decide) (by decide) (by rw [if_pos c1])
  rw [if_neg c1]
  dsimp only
  have d13 : m 13 = 0 := Decidable.not_not.mp (fun q => c1 (Or.inr (Or.inl q)))
  have ey : upd (upd (gRot y) 12 (gRot y 12 - 1)) 13 1 = upd (upd (gRot y) 12 (nI wn)) 13 1 := by
    rw [gRot_o2 (by omega), h.r (k := 12) (Or.inl (by decide)), hw, nI_pred]
  rw [ey]
  have em := mBer_eq hw
  have b12 : upd (upd (xcp m 50 55 25) 12 (nI wn)) 13 1 12 = nI wn := by rw [upd_n (by decide), upd_s]
  have s : Sim (upd (upd (gRot y) 12 (nI wn)) 13 1) (upd (upd (xcp m 50 55 25) 12 (nI wn)) 13 1) := by
    refine ⟨fun k hk => upd_eq2 (upd_eq2 ?_), fun p hp hl f hf => upd_eq2 (upd_eq2 ?_)⟩
    · rw [gRot_o2 (by omega), xcp_o (by omega)]; exact h.1 k hk
    · obtain ⟨p5, pl⟩ := live_berth hw5 hw b12 hp hl
      rw [gRot_t p5 hf, xcp_t p5 hf]
      exact h.2 (p + 1) (by omega) pl f hf
  have v := hv.berth hw5 hw d13
  have lb : live (upd (upd (xcp m 50 55 25) 12 (nI wn)) 13 1) 0 := live0.mpr upd_s
  obtain ⟨u, hu, e⟩ := v.units (p := 0) (by decide) lb
  have e1 : (mBer m).1 = cUnits (mBer m).2 0 := rfl
  refine Or.inr ⟨by unfold eBer; rw [if_neg (fun q => c1 (q.imp_right (fun q => q.imp_left ez.mp)))], ⟨?_, ?_⟩, ?_, ?_⟩
  · rw [e1, em]; exact s.units (by decide) lb
  · rw [em]; exact s
  · show isErr (cUnits _ 0) = false
    rw [s.units (by decide) lb, e]; exact ok_nI (by omega)
  · rw [em]; exact v
