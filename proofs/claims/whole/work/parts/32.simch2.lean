/-! further changes -/
theorem VC.set {z : xV} {k : Nat} {v : Int32} (hk : k < 6) (h : rg v (xsV 1 k) (xsV 2 k)) : VC z k v := by
  refine ⟨⟨?_, ?_, ?_, ?_, ?_, ?_⟩, ?_, ?_, ?_, ?_, fun g hg q => ?_, fun i hi => ⟨fun q => ?_, fun q => ?_, fun q => ?_, fun q => ?_⟩, fun p hp g hg q _ => ?_⟩
  · intro e; subst e; exact h
  · intro e; subst e; exact h
  · intro e; subst e; exact h
  · intro e; subst e; exact h
  · intro e; subst e; exact h
  · intro e; subst e; exact h
  all_goals (try simp only [hz, tz] at *)
  all_goals (intros; omega)
theorem set_ok {m : xV} (hv : IV m) {k : Nat} (hk : k < 6) : isErr (m k) = false := by
  obtain ⟨a0, a1, a2, a3, a4, a5⟩ := hv.1
  rcases (show k = 0 ∨ k = 1 ∨ k = 2 ∨ k = 3 ∨ k = 4 ∨ k = 5 by omega) with rfl | rfl | rfl | rfl | rfl | rfl
  · exact ok_rg (hi := 150) (by decide) (rg0 a0 (by decide))
  · exact ok_rg (hi := 40) (by decide) (rg0 a1 (by decide))
  · exact ok_rg (hi := 20) (by decide) (rg0 a2 (by decide))
  · exact ok_rg (hi := 40) (by decide) (rg0 a3 (by decide))
  · exact ok_rg (hi := 99) (by decide) (rg0 a4 (by decide))
  · exact ok_rg (hi := 99) (by decide) (rg0 a5 (by decide))
theorem inB_f {v a b : Int32} (h : v < a ∨ b < v) : inB v a b = false := by
  unfold inB
  rcases h with q | q
  · rw [decide_eq_false (Int32.not_le.mpr q), Bool.false_and]
  · rw [decide_eq_false (Int32.not_le.mpr q), Bool.and_false]
theorem inB_t {v a b : Int32} (h : ¬ (v < a ∨ b < v)) : inB v a b = true ∧ rg v a b := by
  have c3 : a ≤ v ∧ v ≤ b := ⟨Int32.not_lt.mp (fun q => h (Or.inl q)), Int32.not_lt.mp (fun q => h (Or.inr q))⟩
  refine ⟨?_, c3⟩
  unfold inB
  rw [decide_eq_true c3.1, decide_eq_true c3.2]
  rfl
theorem lt6 (s : Int32) : 6 ≤ s ↔ 5 < s := by
  rw [i_le, i_lt]
  have e6 : (6 : Int32).toInt = 6 := rfl
  have e5 : (5 : Int32).toInt = 5 := rfl
  rw [e6, e5]
  omega
theorem Sim.set {y m : xV} (h : Sim y m) (hv : IV m) (s v : Int32) : Dn (gSet y s v) (eSet s v) (aSet m s v) y := by
  unfold gSet
  by_cases c0 : s < 0 ∨ 6 ≤ s
  · exact Dn.no (v := -100002) (by unfold eSet; rw [if_pos (inB_f (c0.imp_right (lt6 s).mp))]) (by decide) (by decide) (by rw [if_pos c0])
  have c1 : ¬ (s < 0 ∨ 5 < s) := fun q => c0 (q.imp_right (lt6 s).mpr)
  obtain ⟨b1, r1⟩ := inB_t c1
  have eb : ¬ inB s 0 5 = false := by rw [b1]; decide
  obtain ⟨k, hk, ek, etk⟩ := inB_tn (n := 5) rfl (by decide) b1
  have hlt : tn s < 6 := by omega
  rw [if_neg c0]
  by_cases c2 : v < xsV 1 (tn s) ∨ xsV 2 (tn s) < v
  · exact Dn.no (v := -100002) (by unfold eSet; rw [if_neg eb, if_pos (inB_f c2)]) (by decide) (by decide) (by rw [if_pos c2])
  obtain ⟨b2, r2⟩ := inB_t c2
  rw [if_neg c2, h.r (k := tn s) (Or.inl (by omega))]
  exact Or.inr ⟨by unfold eSet; rw [if_neg eb, if_neg (by rw [b2]; decide)], ⟨rfl, h.up (by omega) (by omega)⟩, set_ok hv hlt, hv.up (VC.set hlt r2)⟩
theorem ok_burstN (m : xV) : isErr (cBurstN m) = false := by
  unfold cBurstN
  generalize decide (¬ m (hz 0 3) = 0) = a
  generalize decide (¬ m (hz 1 3) = 0) = b
  generalize decide (¬ m (hz 2 3) = 0) = c
  generalize decide (¬ m (hz 3 3) = 0) = d
  revert a b c d
  decide
theorem ok_connN (m : xV) : isErr (cConnN m) = false := by
  unfold cConnN
  generalize isG (m (hz 0 2)) = a
  generalize isG (m (hz 1 2)) = b
  generalize isG (m (hz 2 2)) = c
  generalize isG (m (hz 3 2)) = d
  revert a b c d
  decide
theorem Sim.mend {y m : xV} (h : Sim y m) (hv : IV m) (hh : Int32) : Dn (gMend y hh) (eMen m hh) (aMen m (tn hh)) y := by
  unfold gMend
  by_cases c1 : isG hh = false
  · exact Dn.no (v := -100001) (by unfold eMen; rw [if_pos c1]) (by decide) (by decide) (by rw [if_pos c1])
  have hlt : tn hh < 4 := isG_tn (by simpa using c1)
  rw [if_neg c1, h.rh hlt (f := 3) (by decide)]
  by_cases c2 : m (hz (tn hh) 3) = 0
  · exact Dn.no (v := -100005) (by unfold eMen; rw [if_neg c1, if_pos c2]) (by decide) (by decide) (by rw [if_pos c2])
  rw [if_neg c2]
  dsimp only
  have s : Sim (upd (upd y (hz (tn hh) 3) 0) (hz (tn hh) 1) (-100006)) (upd (upd m (hz (tn hh) 3) 0) (hz (tn hh) 1) (-100006)) := (h.up (by simp only [hz]; omega) (by simp only [hz]; omega)).up (by simp only [hz]; omega) (by simp only [hz]; omega)
  exact Or.inr ⟨by unfold eMen; rw [if_neg c1, if_neg c2], ⟨s.burstN, s⟩, ok_burstN _, IV.up (hv.up (VC.h3 hlt (Or.inl rfl))) (VC.h1 hlt gvN)⟩
theorem Sim.flush {y m : xV} (h : Sim y m) (hv : IV m) (hh : Int32) : Dn (gFlush y hh) (eFlu m hh) (aFlu m (tn hh)) y := by
  unfold gFlush
  by_cases c1 : isG hh = false
  · exact Dn.no (v := -100001) (by unfold eFlu; rw [if_pos c1]) (by decide) (by decide) (by rw [if_pos c1])
  have hlt : tn hh < 4 := isG_tn (by simpa using c1)
  rw [if_neg c1]
  dsimp only
  rw [h.rh hlt (f := 2) (by decide), h.rh hlt (f := 1) (by decide)]
  by_cases c2 : isG (m (hz (tn hh) 2)) = true ∨ isG (m (hz (tn hh) 1)) = false
  · refine Dn.no (v := -100005) ?_ (by decide) (by decide) (by rw [if_pos c2])
    unfold eFlu kFlu
    rw [if_neg c1, if_pos]
    rcases c2 with q | q <;> simp [q]
  have d1 : isG (m (hz (tn hh) 2)) = false := by
    cases q : isG (m (hz (tn hh) 2))
    · rfl
    · exact absurd (Or.inl q) c2
  have d2 : isG (m (hz (tn hh) 1)) = true := by
    cases q : isG (m (hz (tn hh) 1))
    · exact absurd (Or.inr q) c2
    · rfl
  have hg : tn (m (hz (tn hh) 1)) < 4 := isG_tn d2
  rw [if_neg c2]
  have e0 : eFlu m hh = 0 := by
    unfold eFlu kFlu
    rw [if_neg c1, if_neg (by rw [d1, d2]; decide)]
  refine Or.inr ⟨e0, ?_⟩
  unfold aFlu
  dsimp only
  generalize tn (m (hz (tn hh) 1)) = g at hg ⊢
  rw [h.r (k := 14 + g) (Or.inl (by omega))]
  obtain ⟨s, -, hs, es⟩ := rgN (lo := 0) (hi := 1000) (by decide) (by decide) (hv.2.2.2.2.2.1 _ hg)
  have eu : imin 5 (m (14 + g)) = nI (min 5 s) := imin_rg (m := 5) rfl es (by omega) (by omega)
  rw [eu]
  have h1 : Sim (upd y (14 + g) (m (14 + g) - nI (min 5 s))) (upd m (14 + g) (m (14 + g) - nI (min 5 s))) := h.up (by omega) (by omega)
  rw [h1.r (k := 18 + g) (Or.inl (by omega))]
  refine ⟨⟨rfl, (h1.up (by omega) (by omega)).up (by simp only [hz]; omega) (by simp only [hz]; omega)⟩, ok_nI (by omega), ?_⟩
  refine IV.up (IV.up (hv.up (VC.tank hg ?_)) (VC.free ?_)) (VC.h1 hlt gvN)
  · rw [es, pk_sub (by omega)]
    exact rgM (lo := 0) (hi := 1000) (by omega) (by omega) (by decide)
  · right; right; right; right; left; omega
theorem Sim.connect {y m : xV} (h : Sim y m) (hv : IV m) (hh g : Int32) : Dn (gConnect y hh g) (eCon m hh g) (aCon m (tn hh) g) y := by
  unfold gConnect
  by_cases c1 : isG hh = false ∨ isG g = false
  · exact Dn.no (v := -100001) (by unfold eCon; rw [if_pos c1]) (by decide) (by decide) (by rw [if_pos c1])
  have c1h : isG hh = true := by
    cases q : isG hh
    · exact absurd (Or.inl q) c1
    · rfl
  have c1g : isG g = true := by
    cases q : isG g
    · exact absurd (Or.inr q) c1
    · rfl
  have hlt : tn hh < 4 := isG_tn c1h
  rw [if_neg c1, h.r (k := 13) (Or.inl (by decide)), h.rh hlt (f := 3) (by decide), h.rh hlt (f := 2) (by decide), h.rh hlt (f := 0) (by decide), h.r (k := 6) (Or.inl (by decide)), h.height]
  by_cases c2 : m 13 = 0 ∨ ¬ m (hz (tn hh) 3) = 0 ∨ isG (m (hz (tn hh) 2)) = true
  · refine Dn.no (v := -100005) ?_ (by decide) (by decide) (by rw [if_pos c2])
    unfold eCon kCon
    rw [if_neg c1, if_pos]
    rcases c2 with q | q | q <;> simp [q]
  have d13 : m 13 = 1 := hv.2.2.2.1.resolve_left (fun q => c2 (Or.inl q))
  have d3 : m (hz (tn hh) 3) = 0 := Decidable.not_not.mp (fun q => c2 (Or.inr (Or.inl q)))
  have d2 : isG (m (hz (tn hh) 2)) = false := by
    cases q : isG (m (hz (tn hh) 2))
    · rfl
    · exact absurd (Or.inr (Or.inr q)) c2
  rw [if_neg c2, h.draught (by decide) (live0.mpr d13)]
  by_cases c3 : m (hz (tn hh) 0) < cHeight m (cDraught m 0) (m 6)
  · refine Dn.no (v := -100005) ?_ (by decide) (by decide) (by rw [if_pos c3])
    unfold eCon kCon
    rw [if_neg c1, if_pos]
    rw [decide_eq_false (Int32.not_le.mpr c3), Bool.and_false]
  rw [if_neg c3]
  dsimp only
  have s : Sim (upd y (hz (tn hh) 2) g) (upd m (hz (tn hh) 2) g) := h.up (by simp only [hz]; omega) (by simp only [hz]; omega)
  refine Or.inr ⟨?_, ⟨s.connN, s⟩, ok_connN _, hv.up (VC.h2 hlt (Or.inr c1g) (fun _ => d13))⟩
  unfold eCon kCon
  rw [if_neg c1, if_neg]
  rw [d13, d3, d2, decide_eq_true (Int32.not_lt.mp c3)]
  decide
