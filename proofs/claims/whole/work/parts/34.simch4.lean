/-! arriving -/
def set5 (z : xV) (q : Nat) (a b c d e : Int32) : xV := upd (upd (upd (upd (upd z (tz q 0) a) (tz q 1) b) (tz q 2) c) (tz q 3) d) (tz q 4) e
theorem set5_eq {y m : xV} {q j : Nat} {a b c d e : Int32} (h : (∀ f, f < 5 → j ≠ tz q f) → y j = m j) : set5 y q a b c d e j = set5 m q a b c d e j := by
  unfold set5
  by_cases e4 : j = tz q 4
  · rw [e4, upd_s, upd_s]
  rw [upd_n e4, upd_n e4]
  by_cases e3 : j = tz q 3
  · rw [e3, upd_s, upd_s]
  rw [upd_n e3, upd_n e3]
  by_cases e2 : j = tz q 2
  · rw [e2, upd_s, upd_s]
  rw [upd_n e2, upd_n e2]
  by_cases e1 : j = tz q 1
  · rw [e1, upd_s, upd_s]
  rw [upd_n e1, upd_n e1]
  by_cases e0 : j = tz q 0
  · rw [e0, upd_s, upd_s]
  rw [upd_n e0, upd_n e0]
  refine h (fun f hf => ?_)
  rcases (show f = 0 ∨ f = 1 ∨ f = 2 ∨ f = 3 ∨ f = 4 by omega) with rfl | rfl | rfl | rfl | rfl
  · exact e0
  · exact e1
  · exact e2
  · exact e3
  · exact e4
theorem set5_o {z : xV} {q j : Nat} {a b c d e : Int32} (h : j < 50 ∨ 80 ≤ j) (hq : q < 6) : set5 z q a b c d e j = z j := by
  unfold set5
  rw [upd_n (by simp only [tz]; omega), upd_n (by simp only [tz]; omega), upd_n (by simp only [tz]; omega), upd_n (by simp only [tz]; omega), upd_n (by simp only [tz]; omega)]
theorem set5_12 {z : xV} {q : Nat} {a b c d e v : Int32} (hq : q < 6) : set5 (upd z 12 v) q a b c d e = upd (set5 z q a b c d e) 12 v := by
  funext j
  by_cases ej : j = 12
  · subst ej; rw [set5_o (by omega) hq, upd_s, upd_s]
  · rw [upd_n ej]; exact set5_eq (fun _ => upd_n ej)
theorem set5_f {z : xV} {q : Nat} {a b c d e : Int32} : set5 z q a b c d e (tz q 0) = a ∧ set5 z q a b c d e (tz q 1) = b ∧ set5 z q a b c d e (tz q 2) = c ∧ set5 z q a b c d e (tz q 3) = d := by
  unfold set5
  have n : ∀ f g, f ≠ g → tz q f ≠ tz q g := by intro f g hfg; simp only [tz]; omega
  refine ⟨?_, ?_, ?_, ?_⟩
  · rw [upd_n (n 0 4 (by decide)), upd_n (n 0 3 (by decide)), upd_n (n 0 2 (by decide)), upd_n (n 0 1 (by decide)), upd_s]
  · rw [upd_n (n 1 4 (by decide)), upd_n (n 1 3 (by decide)), upd_n (n 1 2 (by decide)), upd_s]
  · rw [upd_n (n 2 4 (by decide)), upd_n (n 2 3 (by decide)), upd_s]
  · rw [upd_n (n 3 4 (by decide)), upd_s]
theorem IV.wait {z : xV} (h : IV z) {wn : Nat} (hw : wn + 1 ≤ 5) (h12 : z 12 = nI wn) (hl : ∀ g, g < 4 → rg (z (tz (wn + 1) g)) 0 400) : IV (upd z 12 (nI (wn + 1))) := by
  obtain ⟨⟨a0, a1, a2, a3, a4, a5⟩, a8, a12, a13, a7, aS, aH, aT⟩ := h
  have e : ∀ k, k ≠ 12 → upd z 12 (nI (wn + 1)) k = z k := fun k hk => upd_n hk
  refine ⟨⟨by rw [e 0 (by omega)]; exact a0, by rw [e 1 (by omega)]; exact a1, by rw [e 2 (by omega)]; exact a2, by rw [e 3 (by omega)]; exact a3, by rw [e 4 (by omega)]; exact a4, by rw [e 5 (by omega)]; exact a5⟩, by rw [e 8 (by omega)]; exact a8, by rw [upd_s]; exact rgM (lo := 0) (hi := 5) (by omega) (by omega) (by decide), by rw [e 13 (by omega)]; exact a13, by rw [e 7 (by omega)]; exact a7, fun g hg => by rw [e _ (by omega)]; exact aS g hg, fun i hi => ?_, fun p hp hlv g hg => ?_⟩
  · rw [e (hz i 0) (by simp only [hz]; omega), e (hz i 1) (by simp only [hz]; omega), e (hz i 2) (by simp only [hz]; omega), e (hz i 3) (by simp only [hz]; omega), e 13 (by omega)]
    exact aH i hi
  · rw [e _ (by simp only [tz]; omega)]
    by_cases hq : p = wn + 1
    · subst hq; exact hl g hg
    · refine aT p hp ?_ g hg
      unfold live at hlv ⊢
      rw [upd_s, e 13 (by omega)] at hlv
      by_cases h0 : p = 0
      · rw [if_pos h0] at hlv ⊢; exact hlv
      · rw [if_neg h0] at hlv ⊢
        have := (nI_leI (by omega) (by omega)).mp hlv
        rw [h12]; exact nI_le (by omega) (by omega)
theorem Sim.arrive {y m : xV} (h : Sim y m) (hv : IV m) (a b c d : Int32) : Dn (gArrive y a b c d) (eArr m a b c d) (aArr m (tn (m 12)) a b c d) y := by
  unfold gArrive
  by_cases c1 : isL a = false ∨ isL b = false ∨ isL c = false ∨ isL d = false ∨ a + b + c + d = 0
  · exact Dn.no (v := -100002) (by unfold eArr; exact if_pos c1) (by decide) (by decide) (by rw [if_pos c1])
  have ra : ∀ x, ¬ isL x = false → rg x 0 400 := by
    intro x hx
    have : isL x = true := by simpa using hx
    unfold isL at this
    simp only [Bool.and_eq_true, decide_eq_true_eq] at this
    exact this
  have r0 := ra a (fun q => c1 (Or.inl q))
  have r1 := ra b (fun q => c1 (Or.inr (Or.inl q)))
  have r2 := ra c (fun q => c1 (Or.inr (Or.inr (Or.inl q))))
  have r3 := ra d (fun q => c1 (Or.inr (Or.inr (Or.inr (Or.inl q)))))
  rw [if_neg c1, h.r (k := 12) (Or.inl (by decide))]
  obtain ⟨wn, -, hw5, hw⟩ := rgN (lo := 0) (hi := 5) (by decide) (by decide) hv.2.2.1
  by_cases c2 : wn = 5
  · have e5 : m 12 = 5 := by rw [hw, c2]; rfl
    exact Dn.no (v := -100004) (by unfold eArr; exact (if_neg c1).trans (if_pos e5)) (by decide) (by decide) (by rw [if_pos (Or.inr (by rw [e5]; decide))])
  have c3 : ¬ (m 12 < 0 ∨ 5 ≤ m 12) := by
    rintro (q | q)
    · exact absurd (Int32.not_lt.mpr hv.2.2.1.1) (fun z => z q)
    · rw [hw] at q
      exact absurd q (nI_ge (a := wn) (b := 5) (by omega) (by decide))
  have c4 : ¬ m 12 = 5 := fun q => c3 (Or.inr (by rw [q]; decide))
  rw [if_neg c3]
  have hq : wn + 1 < 6 := by omega
  have e1 : m 12 + 1 = nI (wn + 1) := by rw [hw, nI_1]
  have ep : tn (0 + nI (wn + 1)) = wn + 1 := by rw [Int32.zero_add, tn, nI_clamp (by omega)]
  have etn : tn (m 12) = wn := by rw [hw, tn, nI_clamp (by omega)]
  rw [e1, etn]
  dsimp only
  rw [upd_s (f := y) (k := 12), ep]
  have ey : upd (upd (upd (upd (upd y 12 (nI (wn + 1))) (tz (wn + 1) 0) a) (tz (wn + 1) 1) b) (tz (wn + 1) 2) c) (tz (wn + 1) 3) d 6 = m 6 := by
    rw [upd_n (by simp only [tz]; omega), upd_n (by simp only [tz]; omega), upd_n (by simp only [tz]; omega), upd_n (by simp only [tz]; omega), upd_n (by decide)]
    exact h.r (Or.inl (by decide))
  have em : upd (upd (upd (upd (upd m 12 (nI (wn + 1))) (tz (wn + 1) 0) a) (tz (wn + 1) 1) b) (tz (wn + 1) 2) c) (tz (wn + 1) 3) d 6 = m 6 := by
    rw [upd_n (by simp only [tz]; omega), upd_n (by simp only [tz]; omega), upd_n (by simp only [tz]; omega), upd_n (by simp only [tz]; omega), upd_n (by decide)]
  have ea : aArr m wn a b c d = (nI (wn + 1), set5 (upd m 12 (nI (wn + 1))) (wn + 1) a b c d (m 6)) := by
    unfold aArr set5
    dsimp only
    rw [em]
  rw [ea, ey]
  show Dn (set5 (upd y 12 (nI (wn + 1))) (wn + 1) a b c d (m 6) 12, set5 (upd y 12 (nI (wn + 1))) (wn + 1) a b c d (m 6)) _ _ _
  rw [set5_o (by omega) hq, upd_s]
  refine Or.inr ⟨by unfold eArr; exact (if_neg c1).trans (if_neg c4), ⟨rfl, fun k hk => set5_eq (fun _ => upd_eq2 (h.1 k hk)), fun p hp hl f hf => set5_eq (fun hk => upd_eq2 ?_)⟩, ok_nI (by omega), ?_⟩
  · have hpq : p ≠ wn + 1 := fun q => hk f hf (by rw [q])
    refine h.2 p hp ?_ f hf
    unfold live at hl ⊢
    dsimp only at hl
    rw [set5_o (by omega) hq, set5_o (by omega) hq, upd_s, upd_n (by decide)] at hl
    by_cases h0 : p = 0
    · rw [if_pos h0] at hl ⊢; exact hl
    · rw [if_neg h0] at hl ⊢
      have := (nI_leI (by omega) (by omega)).mp hl
      rw [hw]; exact nI_le (by omega) (by omega)
  · show IV (set5 (upd m 12 (nI (wn + 1))) (wn + 1) a b c d (m 6))
    rw [set5_12 hq]
    refine IV.wait ?_ (by omega) (by rw [set5_o (by omega) hq]; exact hw) ?_
    · unfold set5
      exact IV.up (IV.up (IV.up (IV.up (hv.up (VC.unit hq (by decide) (fun _ => r0))) (VC.unit hq (by decide) (fun _ => r1))) (VC.unit hq (by decide) (fun _ => r2))) (VC.unit hq (by decide) (fun _ => r3))) (VC.free (Or.inr (Or.inr (Or.inr (Or.inr (Or.inr (Or.inr (Or.inl ⟨wn + 1, hq, rfl⟩))))))))
    · intro g hg
      obtain ⟨f0, f1, f2, f3⟩ := set5_f (z := m) (q := wn + 1) (a := a) (b := b) (c := c) (d := d) (e := m 6)
      rcases (show g = 0 ∨ g = 1 ∨ g = 2 ∨ g = 3 by omega) with rfl | rfl | rfl | rfl
      · rw [f0]; exact r0
      · rw [f1]; exact r1
      · rw [f2]; exact r2
      · rw [f3]; exact r3
