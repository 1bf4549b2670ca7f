/-! tankers: they come, go to the berth, leave -/
theorem cIsT_n {z : xV} {w p : Nat} (h12 : z 12 = nI w) (hw : w ≤ 5) (h0 : 0 < p) (hp : p < 6) : cIsT z (nI p) = bI (decide (p ≤ w)) := by
  unfold cIsT
  rw [if_neg (nI_ne0 h0 (by omega)), h12]
  congr 1
  have e1 : (0 : Int32) < nI p := nI_lt (a := 0) h0 (by omega)
  have e2 : nI p < 6 := nI_lt (b := 6) hp (by decide)
  rw [decide_eq_true e1, decide_eq_true e2, Bool.true_and, Bool.and_true]
  exact decide_eq_decide.mpr (nI_leI (by omega) (by omega))
theorem uT_n {z : xV} {w p g : Nat} (h12 : z 12 = nI w) (hw : w ≤ 5) (h0 : 0 < p) (hp : p < 6) : uT z p g = if p ≤ w then z (tz p g) else 0 := by
  unfold uT
  rw [cIsT_n h12 hw h0 hp]
  by_cases c : p ≤ w
  · rw [if_pos c, decide_eq_true c]; rfl
  · rw [if_neg c, decide_eq_false c]; rfl
theorem uT_0 {z : xV} {g : Nat} : uT z 0 g = if z 13 = 0 then 0 else z (tz 0 g) := rfl
theorem ok_units {z : xV} (h : IV z) (h13 : z 13 = 1) : isErr (cUnits z 0) = false ∧ ¬ cUnits z 0 < 0 := by
  obtain ⟨u, hu, e⟩ := h.units (p := 0) (by decide) (live0.mpr h13)
  rw [e]; exact ok_nI (by omega)
theorem gRot_o2 {z : xV} {k : Nat} (h : k < 50 ∨ 80 ≤ k) : gRot z k = z k := by
  unfold gRot
  rw [if_neg (by omega), if_neg (by omega)]
theorem gRot_t {z : xV} {p f : Nat} (hp : p < 5) (hf : f < 5) : gRot z (tz p f) = z (tz (p + 1) f) := by
  unfold gRot
  have : tz p f + 5 = tz (p + 1) f := by simp only [tz]; omega
  rw [if_pos (by simp only [tz]; omega), this]
theorem live_berth {m b : xV} {wn : Nat} (hw : wn + 1 ≤ 5) (h12 : m 12 = nI (wn + 1)) (b12 : b 12 = nI wn) {p : Nat} (hp : p < 6) (hl : live b p) : p < 5 ∧ live m (p + 1) := by
  unfold live at hl ⊢
  rw [if_neg (by omega), h12]
  by_cases h0 : p = 0
  · subst h0; exact ⟨by omega, nI_le (by omega) (by omega)⟩
  · rw [if_neg h0, b12] at hl
    have := (nI_leI (by omega) (by omega)).mp hl
    exact ⟨by omega, nI_le (by omega) (by omega)⟩
theorem IV.berth {m : xV} (h : IV m) {wn : Nat} (hw : wn + 1 ≤ 5) (h12 : m 12 = nI (wn + 1)) (h13 : m 13 = 0) : IV (upd (upd (gRot m) 12 (nI wn)) 13 1) := by
  obtain ⟨⟨a0, a1, a2, a3, a4, a5⟩, a8, a12, a13, a7, aS, aH, aT⟩ := h
  have e : ∀ k, k < 50 → k ≠ 12 → k ≠ 13 → upd (upd (gRot m) 12 (nI wn)) 13 1 k = m k := fun k hk k1 k2 => by rw [upd_n k2, upd_n k1, gRot_o2 (by omega)]
  have b12 : upd (upd (gRot m) 12 (nI wn)) 13 1 12 = nI wn := by rw [upd_n (by decide), upd_s]
  refine ⟨⟨by rw [e 0 (by omega) (by omega) (by omega)]; exact a0, by rw [e 1 (by omega) (by omega) (by omega)]; exact a1, by rw [e 2 (by omega) (by omega) (by omega)]; exact a2, by rw [e 3 (by omega) (by omega) (by omega)]; exact a3, by rw [e 4 (by omega) (by omega) (by omega)]; exact a4, by rw [e 5 (by omega) (by omega) (by omega)]; exact a5⟩, by rw [e 8 (by omega) (by omega) (by omega)]; exact a8, by rw [b12]; exact rgM (lo := 0) (hi := 5) (by omega) (by omega) (by decide), by rw [upd_s]; exact Or.inr rfl, by rw [e 7 (by omega) (by omega) (by omega)]; exact a7, fun g hg => by rw [e _ (by omega) (by omega) (by omega)]; exact aS g hg, fun i hi => ?_, fun p hp hl g hg => ?_⟩
  · rw [e (hz i 0) (by simp only [hz]; omega) (by simp only [hz]; omega) (by simp only [hz]; omega), e (hz i 1) (by simp only [hz]; omega) (by simp only [hz]; omega) (by simp only [hz]; omega), e (hz i 2) (by simp only [hz]; omega) (by simp only [hz]; omega) (by simp only [hz]; omega), e (hz i 3) (by simp only [hz]; omega) (by simp only [hz]; omega) (by simp only [hz]; omega), upd_s]
    obtain ⟨b0, b1, b2, b3, b4⟩ := aH i hi
    exact ⟨b0, b1, b2, b3, fun _ => rfl⟩
  · obtain ⟨p5, pl⟩ := live_berth hw h12 b12 hp hl
    rw [upd_n (by simp only [tz]; omega), upd_n (by simp only [tz]; omega), gRot_t p5 (by omega)]
    exact aT (p + 1) (by omega) pl g hg
section XOPS2
variable {z : xV} {f : Nat → Int32} {n : Nat}
theorem op_berth (h : LV z f n) : OpR (gBerth z) z f f n := by
  by_cases c1 : z 12 = 0 ∨ ¬ z 13 = 0 ∨ cFloats z (cDraught z 1) (z 6) = false
  · exact OpR.no (-100005) (by decide) (by decide) (by unfold gBerth; rw [if_pos c1]) rfl
  obtain ⟨w, -, hw5, hw⟩ := rgN (lo := 0) (hi := 5) (by decide) (by decide) h.1.1.2.2.1
  obtain ⟨wn, rfl⟩ : ∃ k, w = k + 1 := ⟨w - 1, by
    rcases Nat.eq_zero_or_pos w with q | q
    · exact absurd (Or.inl (by rw [hw, q]; rfl)) c1
    · omega⟩
  have d13 : z 13 = 0 := Decidable.not_not.mp (fun q => c1 (Or.inr (Or.inl q)))
  have e : gBerth z = (cUnits (upd (upd (gRot z) 12 (nI wn)) 13 1) 0, upd (upd (gRot z) 12 (nI wn)) 13 1) := by
    unfold gBerth
    rw [if_neg c1]
    dsimp only
    rw [gRot_o2 (by omega), hw, nI_pred]
  have hI := h.1.1.berth hw5 hw d13
  have ow : ∀ k, (k < 50 ∨ 80 ≤ k) → k ≠ 12 → k ≠ 13 → upd (upd (gRot z) 12 (nI wn)) 13 1 k = z k := fun k hk k1 k2 => by rw [upd_n k2, upd_n k1, gRot_o2 hk]
  have ot : ∀ p g, p < 5 → g < 5 → upd (upd (gRot z) 12 (nI wn)) 13 1 (tz p g) = z (tz (p + 1) g) := fun p g hp hg => by rw [upd_n (by simp only [tz]; omega), upd_n (by simp only [tz]; omega), gRot_t hp hg]
  have w12 : upd (upd (gRot z) 12 (nI wn)) 13 1 12 = nI wn := by rw [upd_n (by decide), upd_s]
  have w13 : upd (upd (gRot z) 12 (nI wn)) 13 1 13 = 1 := upd_s
  rw [e]
  generalize upd (upd (gRot z) 12 (nI wn)) 13 1 = w at hI ow ot w12 w13
  obtain ⟨o1, o2⟩ := ok_units hI w13
  have hh : ∀ i t, i < 4 → t < 6 → w (hz i t) = z (hz i t) := fun i t hi ht => ow _ (by simp only [hz]; omega) (by simp only [hz]; omega) (by simp only [hz]; omega)
  refine Or.inr ⟨o1, o2, h.of ?_ ?_⟩
  · obtain ⟨-, b, ⟨m, hm, em⟩, d⟩ := h.1.mono
    exact ⟨hI, fun i hi => by show w (80 + i) = 0; rw [ow _ (by omega) (by omega) (by omega)]; exact b i hi, ⟨m, hm, (ow 6 (by omega) (by omega) (by omega)).trans em⟩, d.cg (fun i hi => ⟨hh i 2 hi (by omega), hh i 3 hi (by omega)⟩)⟩
  · have hU : ∀ g, g < 4 → cUIT w g 6 = cUIT z g 6 := by
      intro g hg
      have a : ∀ p, 0 < p → p < 5 → uT w p g = uT z (p + 1) g := fun p p0 p5 => by
        rw [uT_n w12 (by omega) p0 (by omega), uT_n hw hw5 (by omega) (by omega), ot p g p5 (by omega)]
        by_cases c : p ≤ wn
        · rw [if_pos c, if_pos (by omega)]
        · rw [if_neg c, if_neg (by omega)]
      have a0 : uT w 0 g = uT z 1 g := by
        rw [uT_0, w13, if_neg (by decide), uT_n hw hw5 (by omega) (by omega), if_pos (by omega), ot 0 g (by omega) (by omega)]
      have a5 : uT w 5 g = 0 := by rw [uT_n w12 (by omega) (by omega) (by omega), if_neg (by omega)]
      have z0 : uT z 0 g = 0 := by rw [uT_0, if_pos d13]
      rw [cUIT_6, cUIT_6, a0, a 1 (by decide) (by decide), a 2 (by decide) (by decide), a 3 (by decide) (by decide), a 4 (by decide) (by decide), a5, z0]
      grind
    refine ⟨fun g hg => ?_, ?_, ?_, ?_, ?_⟩
    · unfold wU
      dsimp only
      rw [hU g hg, ow _ (by omega) (by omega) (by omega), ow _ (by omega) (by omega) (by omega), ow _ (by omega) (by omega) (by omega)]
    · unfold dS
      dsimp only
      rw [sPl_cg (fun k hk => ow _ (by omega) (by omega) (by omega)), ow 9 (by omega) (by omega) (by omega), ow 8 (by omega) (by omega) (by omega), ow 10 (by omega) (by omega) (by omega)]
    · unfold dM
      dsimp only
      rw [hMv_cg (fun k hk => hh k 4 hk (by omega)), hSp_cg (fun k hk => hh k 5 hk (by omega)), tSt_cg (fun k hk => ow _ (by omega) (by omega) (by omega)), lSp_cg (fun k hk => ow _ (by omega) (by omega) (by omega))]
    · unfold dF
      dsimp only
      rw [hSp_cg (fun k hk => hh k 5 hk (by omega)), lSp_cg (fun k hk => ow _ (by omega) (by omega) (by omega))]
    · dsimp only
      rw [ow 7 (by omega) (by omega) (by omega), ow 8 (by omega) (by omega) (by omega)]
      exact id
theorem noconn {m : xV} (h : ¬ 0 < cConnN m) : ∀ i, i < 4 → isG (m (hz i 2)) = false := by
  intro i hi
  unfold cConnN at h
  rcases (show i = 0 ∨ i = 1 ∨ i = 2 ∨ i = 3 by omega) with rfl | rfl | rfl | rfl
  all_goals
    revert h
    generalize isG (m (hz 0 2)) = a
    generalize isG (m (hz 1 2)) = b
    generalize isG (m (hz 2 2)) = c
    generalize isG (m (hz 3 2)) = d
    revert a b c d
    decide
theorem live_leave {m : xV} {p : Nat} (hl : live (upd m 13 0) p) : live m p := by
  unfold live at hl ⊢
  by_cases h0 : p = 0
  · rw [if_pos h0, upd_s] at hl
    exact absurd hl (by decide)
  · rw [if_neg h0] at hl ⊢
    rw [upd_n (by decide)] at hl
    exact hl
theorem IV.leave {m : xV} (h : IV m) (hc : ¬ 0 < cConnN m) : IV (upd m 13 0) := by
  have e : ∀ k, k ≠ 13 → upd m 13 0 k = m k := fun k hk => upd_n hk
  obtain ⟨⟨a0, a1, a2, a3, a4, a5⟩, a8, a12, a13, a7, aS, aH, aT⟩ := h
  refine ⟨⟨by rw [e 0 (by omega)]; exact a0, by rw [e 1 (by omega)]; exact a1, by rw [e 2 (by omega)]; exact a2, by rw [e 3 (by omega)]; exact a3, by rw [e 4 (by omega)]; exact a4, by rw [e 5 (by omega)]; exact a5⟩, by rw [e 8 (by omega)]; exact a8, by rw [e 12 (by omega)]; exact a12, by rw [upd_s]; exact Or.inl rfl, by rw [e 7 (by omega)]; exact a7, fun g hg => by rw [e _ (by omega)]; exact aS g hg, fun i hi => ?_, fun p hp hl g hg => ?_⟩
  · rw [e (hz i 0) (by simp only [hz]; omega), e (hz i 1) (by simp only [hz]; omega), e (hz i 2) (by simp only [hz]; omega), e (hz i 3) (by simp only [hz]; omega)]
    obtain ⟨b0, b1, b2, b3, b4⟩ := aH i hi
    exact ⟨b0, b1, b2, b3, fun q => by rw [noconn hc i hi] at q; cases q⟩
  · rw [e _ (by simp only [tz]; omega)]
    exact aT p hp (live_leave hl) g hg
theorem cTan_u {g : Nat} (hg : g < 4) (h13 : z 13 = 1) : cTanker z 0 (nI g) = z (tz 0 g) := by
  rcases (show g = 0 ∨ g = 1 ∨ g = 2 ∨ g = 3 by omega) with rfl | rfl | rfl | rfl
  all_goals
    unfold cTanker
    rw [if_neg (by decide), if_neg (by show ¬ z 13 = 0; rw [h13]; decide), if_neg (by decide), if_neg (by decide), if_neg (by decide), if_neg (by decide)]
    rfl
theorem op_leave (h : LV z f n) : OpR (gLeave z) z f (if (gLeave z).1 < 0 then f else upd (upd (upd (upd f 4 (f 4 + cTanker z 0 0)) 5 (f 5 + cTanker z 0 1)) 6 (f 6 + cTanker z 0 2)) 7 (f 7 + cTanker z 0 3)) n := by
  by_cases c1 : z 13 = 0 ∨ cFloats z (cDraught z 0) (z 6) = false ∨ 0 < cConnN z
  · have e : gLeave z = (-100005, z) := by unfold gLeave; rw [if_pos c1]
    exact OpR.no (-100005) (by decide) (by decide) e (by rw [e]; exact if_pos (show (-100005 : Int32) < 0 by decide))
  have d13 : z 13 = 1 := h.1.1.2.2.2.1.resolve_left (fun q => c1 (Or.inl q))
  have e : gLeave z = (cUnits z 0, upd z 13 0) := by
    unfold gLeave
    rw [if_neg c1]
    dsimp only
    unfold cUnits
    rw [upd_n (by decide), upd_n (by decide), upd_n (by decide), upd_n (by decide)]
  obtain ⟨o1, o2⟩ := ok_units h.1.1 d13
  rw [e]
  dsimp only
  rw [if_neg o2]
  refine Or.inr ⟨o1, o2, ?_⟩
  rw [show cTanker z 0 0 = z (tz 0 0) from cTan_u (g := 0) (by decide) d13, show cTanker z 0 1 = z (tz 0 1) from cTan_u (g := 1) (by decide) d13, show cTanker z 0 2 = z (tz 0 2) from cTan_u (g := 2) (by decide) d13, show cTanker z 0 3 = z (tz 0 3) from cTan_u (g := 3) (by decide) d13]
  obtain ⟨F', eF'⟩ : ∃ q, q = upd (upd (upd (upd f 4 (f 4 + z (tz 0 0))) 5 (f 5 + z (tz 0 1))) 6 (f 6 + z (tz 0 2))) 7 (f 7 + z (tz 0 3)) := ⟨_, rfl⟩
  rw [← eF']
  have g0 : ∀ j, j < 4 ∨ 8 ≤ j → F' j = f j := fun j hj => by rw [eF', upd_n (by omega), upd_n (by omega), upd_n (by omega), upd_n (by omega)]
  have g4 : ∀ j, j < 4 → F' (4 + j) = f (4 + j) + z (tz 0 j) := by
    intro j hj
    rw [eF']
    rcases (show j = 0 ∨ j = 1 ∨ j = 2 ∨ j = 3 by omega) with rfl | rfl | rfl | rfl <;> rfl
  have o : ∀ k, k ≠ 13 → upd z 13 0 k = z k := fun k hk => upd_n hk
  have w13 : upd z 13 0 13 = 0 := upd_s
  have hI := h.1.1.leave (fun q => c1 (Or.inr (Or.inr q)))
  dsimp only
  generalize upd z 13 0 = w at hI o w13 ⊢
  obtain ⟨hm, b, c, d, ee, ⟨F, hF, eF⟩, q⟩ := h.mono
  have hU : ∀ g, g < 4 → cUIT w g 6 = cUIT z g 6 - z (tz 0 g) := by
    intro g hg
    have a : ∀ p, 0 < p → p < 6 → uT w p g = uT z p g := fun p p0 p6 => by
      unfold uT cIsT
      rw [if_neg (nI_ne0 p0 (by omega)), if_neg (nI_ne0 p0 (by omega)), o 12 (by decide), o (tz p g) (by simp only [tz]; omega)]
    have a0 : uT w 0 g = 0 := by rw [uT_0, if_pos w13]
    have z0 : uT z 0 g = z (tz 0 g) := by rw [uT_0, d13, if_neg (by decide)]
    rw [cUIT_6, cUIT_6, a0, a 1 (by decide) (by decide), a 2 (by decide) (by decide), a 3 (by decide) (by decide), a 4 (by decide) (by decide), a 5 (by decide) (by decide), z0]
    grind
  refine ⟨⟨hI, fun i hi => by rw [o _ (by omega)]; exact hm.2.1 i hi, ?_, hm.2.2.2.cg (fun i hi => ⟨o _ (by simp only [hz]; omega), o _ (by simp only [hz]; omega)⟩)⟩, fun g hg => ?_, ?_, ?_, ?_, ⟨F, hF, ?_⟩, fun g hg => ?_⟩
  · rw [o 6 (by decide)]; exact hm.2.2.1
  · rw [g0 g (by omega), g4 g hg, g0 (8 + g) (by omega), b g hg]
    unfold wU
    rw [hU g hg, o (14 + g) (by omega), o (18 + g) (by omega), o (22 + g) (by omega)]
    grind
  · rw [← c]
    unfold dS
    rw [sPl_cg (fun j hj => o _ (by omega)), o 9 (by omega), o 8 (by omega), o 10 (by omega)]
  · rw [o 7 (by omega), o 8 (by omega)]; exact d
  · rw [g0 8 (by omega), g0 9 (by omega), g0 10 (by omega), g0 11 (by omega), ← ee]
    unfold dM
    rw [hMv_cg (fun j hj => o _ (by simp only [hz]; omega)), hSp_cg (fun j hj => o _ (by simp only [hz]; omega)), tSt_cg (fun j hj => o _ (by omega)), lSp_cg (fun j hj => o _ (by omega))]
  · rw [← eF]
    unfold dF
    rw [hSp_cg (fun j hj => o _ (by simp only [hz]; omega)), lSp_cg (fun j hj => o _ (by omega))]
  · rw [g0 (8 + g) (by omega)]; exact q g hg
end XOPS2
