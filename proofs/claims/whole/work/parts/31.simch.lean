/-! the changes: the class's against the model's -/
/-- r is what the class answers and leaves, e the model's error or 0, a what the model answers and leaves, y what was -/
def Dn (r : Int32 × xV) (e : Int32) (a : Int32 × xV) (y : xV) : Prop := (¬ e = 0 ∧ isErr e = true ∧ r = (e, y)) ∨ (e = 0 ∧ Sam r a ∧ isErr r.1 = false ∧ IV a.2)
theorem Dn.no {r : Int32 × xV} {e v : Int32} {a : Int32 × xV} {y : xV} (he : e = v) (hv : isErr v = true) (h0 : ¬ v = 0) (hr : r = (v, y)) : Dn r e a y := Or.inl ⟨by rw [he]; exact h0, by rw [he]; exact hv, by rw [he]; exact hr⟩
theorem ok_nI {k : Nat} (h : k < 2 ^ 31) : isErr (nI k) = false := by
  unfold isErr
  have : ¬ nI k ≤ -100001 := by
    rw [i_le, nI_toInt h]
    have : (-100001 : Int32).toInt = -100001 := rfl
    omega
  rw [decide_eq_false this, Bool.false_and]
theorem ok_rg {x : Int32} {hi : Nat} (hh : hi < 2147483648) (h : rg x 0 (nI hi)) : isErr x = false := by
  obtain ⟨k, -, hk, e⟩ := rgN (lo := 0) (hi := hi) hh (by omega) h
  rw [e]; exact ok_nI (by omega)
theorem rg0 {x lo hi : Int32} (h : rg x lo hi) (h0 : 0 ≤ lo) : rg x 0 hi := ⟨Int32.le_trans h0 h.1, h.2⟩
theorem ok_N : isErr (-100006) = false := by decide
theorem ok_gv {x : Int32} (h : gv x) : isErr x = false := by
  rcases h with h | h
  · rw [h]; decide
  · rw [isG_hv h]; exact ok_nI (by have : tn x < 4 := isG_tn h; omega)
theorem Sim.reach {y m : xV} (h : Sim y m) (hv : IV m) (hh v : Int32) : Dn (gReach y hh v) (eRea hh v) (aRea m hh v) y := by
  unfold gReach
  by_cases c1 : isG hh = false
  · exact Dn.no (v := -100001) (by unfold eRea; rw [if_pos c1]) (by decide) (by decide) (by rw [if_pos c1])
  have hlt : tn hh < 4 := isG_tn (by simpa using c1)
  by_cases c2 : v < 20 ∨ 120 < v
  · refine Dn.no (v := -100002) ?_ (by decide) (by decide) (by rw [if_neg c1, if_pos c2])
    unfold eRea
    rw [if_neg c1, if_pos]
    unfold inB
    rcases c2 with q | q
    · rw [decide_eq_false (Int32.not_le.mpr q), Bool.false_and]
    · rw [decide_eq_false (Int32.not_le.mpr q), Bool.and_false]
  · have c3 : 20 ≤ v ∧ v ≤ 120 := ⟨Int32.not_lt.mp (fun q => c2 (Or.inl q)), Int32.not_lt.mp (fun q => c2 (Or.inr q))⟩
    refine Or.inr ⟨?_, ?_, ?_, ?_⟩
    · unfold eRea inB
      rw [if_neg c1, decide_eq_true c3.1, decide_eq_true c3.2]
      rfl
    · rw [if_neg c1, if_neg c2]
      exact ⟨h.rh hlt (by decide), h.up (by simp only [hz]; omega) (by simp only [hz]; omega)⟩
    · rw [if_neg c1, if_neg c2]
      show isErr (y (hz (tn hh) 0)) = false
      rw [h.rh hlt (by decide)]
      exact ok_rg (hi := 120) (by decide) (rg0 (hv.2.2.2.2.2.2.1 _ hlt).1 (by decide))
    · exact hv.up (VC.h0 hlt c3)
theorem Sim.disconnect {y m : xV} (h : Sim y m) (hv : IV m) (hh : Int32) : Dn (gDisconnect y hh) (eDis m hh) (aDis m (tn hh)) y := by
  unfold gDisconnect
  by_cases c1 : isG hh = false
  · exact Dn.no (v := -100001) (by unfold eDis; rw [if_pos c1]) (by decide) (by decide) (by rw [if_pos c1])
  have hlt : tn hh < 4 := isG_tn (by simpa using c1)
  rw [if_neg c1, h.rh hlt (f := 2) (by decide)]
  by_cases c2 : isG (m (hz (tn hh) 2)) = false
  · exact Dn.no (v := -100005) (by unfold eDis; rw [if_neg c1, if_pos c2]) (by decide) (by decide) (by rw [if_pos c2])
  rw [if_neg c2]
  exact Or.inr ⟨by unfold eDis; rw [if_neg c1, if_neg c2], ⟨rfl, h.up (by simp only [hz]; omega) (by simp only [hz]; omega)⟩, ok_gv (hv.2.2.2.2.2.2.1 _ hlt).2.2.1, hv.up (VC.h2 hlt gvN (fun q => absurd q (by decide)))⟩
theorem Sim.boom {y m : xV} (h : Sim y m) (hv : IV m) {b : Int32} (hb : xz b) : Dn (gBoom y b) (eBoo m b) (aBoo m b) y := by
  unfold gBoom
  rw [h.r (k := 7) (Or.inl (by decide)), h.r (k := 8) (Or.inl (by decide))]
  by_cases c1 : m 7 = b
  · exact Dn.no (v := -100005) (by unfold eBoo; rw [if_pos c1]) (by decide) (by decide) (by rw [if_pos c1])
  rw [if_neg c1]
  dsimp only
  have e : aBoo m b = (m 8, upd (upd (upd m 7 b) 10 (upd m 7 b 10 + m 8)) 8 0) := by
    unfold aBoo
    dsimp only
    rw [upd_n (show 10 ≠ 7 by decide), upd_c (f := m) (a := 7) (b := 10) (by decide), upd_c (a := 7) (b := 8) (by decide)]
  rw [e]
  have h1 : Sim (upd y 7 b) (upd m 7 b) := h.up (by decide) (by decide)
  rw [h1.r (k := 10) (Or.inl (by decide))]
  exact Or.inr ⟨by unfold eBoo; rw [if_neg c1], ⟨rfl, (h1.up (by decide) (by decide)).up (by decide) (by decide)⟩, ok_rg (hi := 200) (by decide) hv.2.1,
    IV.up (IV.up (hv.up (VC.laid hb)) (VC.free (Or.inr (Or.inr (Or.inl rfl))))) (VC.held ⟨by decide, by decide⟩)⟩
theorem Sim.draw {y m : xV} (h : Sim y m) (hv : IV m) (g u : Int32) : Dn (gDraw y g u) (eDra m g u) (aDra m g u) y := by
  unfold gDraw
  by_cases c1 : isG g = false
  · exact Dn.no (v := -100001) (by unfold eDra; rw [if_pos c1]) (by decide) (by decide) (by rw [if_pos c1])
  have hlt : tn g < 4 := isG_tn (by simpa using c1)
  rw [if_neg c1, h.r (k := 14 + tn g) (Or.inl (by omega))]
  by_cases c2 : u < 1 ∨ 1000 < u
  · refine Dn.no (v := -100002) ?_ (by decide) (by decide) (by rw [if_pos c2])
    unfold eDra
    rw [if_neg c1, if_pos]
    unfold inB
    rcases c2 with q | q
    · rw [decide_eq_false (Int32.not_le.mpr q), Bool.false_and]
    · rw [decide_eq_false (Int32.not_le.mpr q), Bool.and_false]
  have c3 : 1 ≤ u ∧ u ≤ 1000 := ⟨Int32.not_lt.mp (fun q => c2 (Or.inl q)), Int32.not_lt.mp (fun q => c2 (Or.inr q))⟩
  have eb : ¬ inB u 1 1000 = false := by unfold inB; rw [decide_eq_true c3.1, decide_eq_true c3.2]; decide
  rw [if_neg c2]
  by_cases c4 : m (14 + tn g) < u
  · exact Dn.no (v := -100005) (by unfold eDra; rw [if_neg c1, if_neg eb, if_pos c4]) (by decide) (by decide) (by rw [if_pos c4])
  rw [if_neg c4]
  dsimp only
  rw [upd_s]
  obtain ⟨s, -, hs, es⟩ := rgN (lo := 0) (hi := 1000) (by decide) (by decide) (hv.2.2.2.2.2.1 _ hlt)
  obtain ⟨k, k1, k2, ek⟩ := rgN (lo := 1) (hi := 1000) (by decide) (by decide) c3
  have hks : k ≤ s := by
    rw [es, ek] at c4
    rcases Nat.lt_or_ge s k with q | q
    · exact absurd (nI_lt q (by omega)) c4
    · exact q
  have ed : m (14 + tn g) - u = nI (s - k) := by rw [es, ek, pk_sub hks]
  exact Or.inr ⟨by unfold eDra; rw [if_neg c1, if_neg eb, if_neg c4], ⟨rfl, h.up (by omega) (by omega)⟩, by show isErr (m (14 + tn g) - u) = false; rw [ed]; exact ok_nI (by omega),
    hv.up (VC.tank hlt (by rw [ed]; exact rgM (lo := 0) (hi := 1000) (by omega) (by omega) (by decide)))⟩
theorem Sim.pass {y m : xV} (h : Sim y m) (hv : IV m) (n : Int32) : Dn (gPass y n) (ePas m n) (gHours m (tn n)) y := by
  unfold gPass
  by_cases c2 : n < 1 ∨ 48 < n
  · refine Dn.no (v := -100002) ?_ (by decide) (by decide) (by rw [if_pos c2])
    unfold ePas
    rw [if_pos]
    unfold inB
    rcases c2 with q | q
    · rw [decide_eq_false (Int32.not_le.mpr q), Bool.false_and]
    · rw [decide_eq_false (Int32.not_le.mpr q), Bool.and_false]
  have c3 : 1 ≤ n ∧ n ≤ 48 := ⟨Int32.not_lt.mp (fun q => c2 (Or.inl q)), Int32.not_lt.mp (fun q => c2 (Or.inr q))⟩
  have eb : ¬ inB n 1 48 = false := by unfold inB; rw [decide_eq_true c3.1, decide_eq_true c3.2]; decide
  rw [if_neg c2, h.r (k := 6) (Or.inl (by decide))]
  by_cases c4 : 9999 < m 6 + n
  · exact Dn.no (v := -100004) (by unfold ePas; rw [if_neg eb, if_pos c4]) (by decide) (by decide) (by rw [if_pos c4])
  rw [if_neg c4]
  obtain ⟨k, k1, k2, ek⟩ := rgN (lo := 1) (hi := 48) (by decide) (by decide) c3
  obtain ⟨v1, u, u1, u2⟩ := hv.hours (tn n)
  have s := h.hours hv (tn n)
  have etn : tn n = k := by rw [ek, tn, nI_clamp (by omega)]
  exact Or.inr ⟨by unfold ePas; rw [if_neg eb, if_neg c4], s, by rw [s.1, u2]; exact ok_nI (by rw [etn] at u1; omega), v1⟩
