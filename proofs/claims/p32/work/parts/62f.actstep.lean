/-! a tanker comes; a turn's change -/
def set5 (z : xV) (q : Nat) (a b c d e : Int32) : xV := upd (upd (upd (upd (upd z (tz q 0) a) (tz q 1) b) (tz q 2) c) (tz q 3) d) (tz q 4) e
theorem set5_eq {y m : xV} {q j : Nat} {a b c d e : Int32} (h : (∀ f, f < 5 → j ≠ tz q f) → y j = m j) : set5 y q a b c d e j = set5 m q a b c d e j := by
  unfold set5
  by_cases e4 : j = tz q 4
  · rw [e4, upd_s, upd_s]
  rw [upd_n e4, upd_n e4]
  by_cases e3 : j = tz q 3
  · rw [e3, upd_s, upd_s]
  rw [upd_n e3, upd_n e3]
  by_cases e2 : j = tz q 2
  · rw [e2, upd_s, upd_s]
  rw [upd_n e2, upd_n e2]
  by_cases e1 : j = tz q 1
  · rw [e1, upd_s, upd_s]
  rw [upd_n e1, upd_n e1]
  by_cases e0 : j = tz q 0
  · rw [e0, upd_s, upd_s]
  rw [upd_n e0, upd_n e0]
  refine h (fun f hf => ?_)
  rcases (show f = 0 ∨ f = 1 ∨ f = 2 ∨ f = 3 ∨ f = 4 by omega) with rfl | rfl | rfl | rfl | rfl
  · exact e0
  · exact e1
  · exact e2
  · exact e3
  · exact e4
theorem set5_o {z : xV} {q j : Nat} {a b c d e : Int32} (h : j < 50 ∨ 80 ≤ j) (hq : q < 6) : set5 z q a b c d e j = z j := by
  unfold set5
  rw [upd_n (by simp only [tz]; omega), upd_n (by simp only [tz]; omega), upd_n (by simp only [tz]; omega), upd_n (by simp only [tz]; omega), upd_n (by simp only [tz]; omega)]
theorem set5_12 {z : xV} {q : Nat} {a b c d e v : Int32} (hq : q < 6) : set5 (upd z 12 v) q a b c d e = upd (set5 z q a b c d e) 12 v := by
  funext j
  by_cases ej : j = 12
  · subst ej; rw [set5_o (by omega) hq, upd_s, upd_s]
  · rw [upd_n ej]; exact set5_eq (fun _ => upd_n ej)
theorem set5_f {z : xV} {q : Nat} {a b c d e : Int32} : set5 z q a b c d e (tz q 0) = a ∧ set5 z q a b c d e (tz q 1) = b ∧ set5 z q a b c d e (tz q 2) = c ∧ set5 z q a b c d e (tz q 3) = d := by
  unfold set5
  have n : ∀ f g, f ≠ g → tz q f ≠ tz q g := by intro f g hfg; simp only [tz]; omega
  refine ⟨?_, ?_, ?_, ?_⟩
  · rw [upd_n (n 0 4 (by decide)), upd_n (n 0 3 (by decide)), upd_n (n 0 2 (by decide)), upd_n (n 0 1 (by decide)), upd_s]
  · rw [upd_n (n 1 4 (by decide)), upd_n (n 1 3 (by decide)), upd_n (n 1 2 (by decide)), upd_s]
  · rw [upd_n (n 2 4 (by decide)), upd_n (n 2 3 (by decide)), upd_s]
  · rw [upd_n (n 3 4 (by decide)), upd_s]
theorem IV.wait {z : xV} (h : IV z) {wn : Nat} (hw : wn + 1 ≤ 5) (h12 : z 12 = nI wn) (hl : ∀ g, g < 4 → rg (z (tz (wn + 1) g)) 0 400) : IV (upd z 12 (nI (wn + 1))) := by
  obtain ⟨⟨a0, a1, a2, a3, a4, a5⟩, a8, a12, a13, a7, aS, aH, aT⟩ := h
  have e : ∀ k, k ≠ 12 → upd z 12 (nI (wn + 1)) k = z k := fun k hk => upd_n hk
  refine ⟨⟨by rw [e 0 (by omega)]; exact a0, by rw [e 1 (by omega)]; exact a1, by rw [e 2 (by omega)]; exact a2, by rw [e 3 (by omega)]; exact a3, by rw [e 4 (by omega)]; exact a4, by rw [e 5 (by omega)]; exact a5⟩, by rw [e 8 (by omega)]; exact a8, by rw [upd_s]; exact rgM (lo := 0) (hi := 5) (by omega) (by omega) (by decide), by rw [e 13 (by omega)]; exact a13, by rw [e 7 (by omega)]; exact a7, fun g hg => by rw [e _ (by omega)]; exact aS g hg, fun i hi => ?_, fun p hp hlv g hg => ?_⟩
  · rw [e (hz i 0) (by simp only [hz]; omega), e (hz i 1) (by simp only [hz]; omega), e (hz i 2) (by simp only [hz]; omega), e (hz i 3) (by simp only [hz]; omega), e 13 (by omega)]
    exact aH i hi
  · rw [e _ (by simp only [tz]; omega)]
    by_cases hq : p = wn + 1
    · subst hq; exact hl g hg
    · refine aT p hp ?_ g hg
      unfold live at hlv ⊢
      rw [upd_s, e 13 (by omega)] at hlv
      by_cases h0 : p = 0
      · rw [if_pos h0] at hlv ⊢; exact hlv
      · rw [if_neg h0] at hlv ⊢
        have := (nI_leI (by omega) (by omega)).mp hlv
        rw [h12]; exact nI_le (by omega) (by omega)
theorem set5_n {z : xV} {q p g : Nat} {a b c d e : Int32} (hne : p ≠ q) (hg : g < 5) : set5 z q a b c d e (tz p g) = z (tz p g) := by
  unfold set5
  rw [upd_n (by simp only [tz]; omega), upd_n (by simp only [tz]; omega), upd_n (by simp only [tz]; omega), upd_n (by simp only [tz]; omega), upd_n (by simp only [tz]; omega)]
theorem op_arrive {z : xV} {f : Nat → Int32} {n : Nat} (h : LV z f n) {a b : Nat} (ha : a ≤ 400) (hb : b ≤ 400) : OpR (gArrive z (nI a) (nI b) 0 0) z f (if (gArrive z (nI a) (nI b) 0 0).1 ≤ 0 then f else upd (upd f 0 (f 0 + nI a)) 1 (f 1 + nI b)) n := by
  by_cases c1 : isL (nI a) = false ∨ isL (nI b) = false ∨ isL 0 = false ∨ isL 0 = false ∨ nI a + nI b + 0 + 0 = 0
  · have e : gArrive z (nI a) (nI b) 0 0 = (-100002, z) := by unfold gArrive; rw [if_pos c1]
    exact OpR.no (-100002) (by decide) (by decide) e (by rw [e]; exact if_pos (show (-100002 : Int32) ≤ 0 by decide))
  obtain ⟨wn, -, hw5, hw⟩ := rgN (lo := 0) (hi := 5) (by decide) (by decide) h.1.1.2.2.1
  by_cases c2 : wn = 5
  · have e5 : z 12 = 5 := by rw [hw, c2]; rfl
    have e : gArrive z (nI a) (nI b) 0 0 = (-100004, z) := by unfold gArrive; rw [if_neg c1, if_pos (Or.inr (by rw [e5]; decide))]
    exact OpR.no (-100004) (by decide) (by decide) e (by rw [e]; exact if_pos (show (-100004 : Int32) ≤ 0 by decide))
  have c3 : ¬ (z 12 < 0 ∨ 5 ≤ z 12) := by
    rintro (q | q)
    · exact absurd (Int32.not_lt.mpr h.1.1.2.2.1.1) (fun z => z q)
    · rw [hw] at q
      exact absurd q (nI_ge (a := wn) (b := 5) (by omega) (by decide))
  have hq : wn + 1 < 6 := by omega
  have e1 : z 12 + 1 = nI (wn + 1) := by rw [hw, nI_1]
  have ep : tn (0 + nI (wn + 1)) = wn + 1 := by rw [Int32.zero_add, tn, nI_clamp (by omega)]
  have ew12 : set5 (upd z 12 (nI (wn + 1))) (wn + 1) (nI a) (nI b) 0 0 (z 6) 12 = nI (wn + 1) := by rw [set5_o (by omega) hq, upd_s]
  have e : gArrive z (nI a) (nI b) 0 0 = (nI (wn + 1), set5 (upd z 12 (nI (wn + 1))) (wn + 1) (nI a) (nI b) 0 0 (z 6)) := by
    unfold gArrive
    rw [if_neg c1, if_neg c3]
    dsimp only
    rw [upd_s (f := z) (k := 12), e1, ep]
    have e6 : upd (upd (upd (upd (upd z 12 (nI (wn + 1))) (tz (wn + 1) 0) (nI a)) (tz (wn + 1) 1) (nI b)) (tz (wn + 1) 2) 0) (tz (wn + 1) 3) 0 6 = z 6 := by
      rw [upd_n (by simp only [tz]; omega), upd_n (by simp only [tz]; omega), upd_n (by simp only [tz]; omega), upd_n (by simp only [tz]; omega), upd_n (by decide)]
    rw [e6]
    show (set5 (upd z 12 (nI (wn + 1))) (wn + 1) (nI a) (nI b) 0 0 (z 6) 12, set5 (upd z 12 (nI (wn + 1))) (wn + 1) (nI a) (nI b) 0 0 (z 6)) = _
    rw [ew12]
  have r0 : rg (nI a) 0 400 := rgM (lo := 0) (hi := 400) (by omega) ha (by decide)
  have r1 : rg (nI b) 0 400 := rgM (lo := 0) (hi := 400) (by omega) hb (by decide)
  have r2 : rg (0 : Int32) 0 400 := by decide
  have hI : IV (set5 (upd z 12 (nI (wn + 1))) (wn + 1) (nI a) (nI b) 0 0 (z 6)) := by
    rw [set5_12 hq]
    refine IV.wait ?_ (by omega) (by rw [set5_o (by omega) hq]; exact hw) ?_
    · unfold set5
      exact IV.up (IV.up (IV.up (IV.up (h.1.1.up (VC.unit hq (by decide) (fun _ => r0))) (VC.unit hq (by decide) (fun _ => r1))) (VC.unit hq (by decide) (fun _ => r2))) (VC.unit hq (by decide) (fun _ => r2))) (VC.free (Or.inr (Or.inr (Or.inr (Or.inr (Or.inr (Or.inr (Or.inl ⟨wn + 1, hq, rfl⟩))))))))
    · intro g hg
      obtain ⟨f0, f1, f2, f3⟩ := set5_f (z := z) (q := wn + 1) (a := nI a) (b := nI b) (c := 0) (d := 0) (e := z 6)
      rcases (show g = 0 ∨ g = 1 ∨ g = 2 ∨ g = 3 by omega) with rfl | rfl | rfl | rfl
      · rw [f0]; exact r0
      · rw [f1]; exact r1
      · rw [f2]; exact r2
      · rw [f3]; exact r2
  have o : ∀ k, k < 50 ∨ 80 ≤ k → k ≠ 12 → set5 (upd z 12 (nI (wn + 1))) (wn + 1) (nI a) (nI b) 0 0 (z 6) k = z k := fun k hk k1 => by rw [set5_o hk hq, upd_n k1]
  have ot : ∀ p g, p ≠ wn + 1 → g < 5 → set5 (upd z 12 (nI (wn + 1))) (wn + 1) (nI a) (nI b) 0 0 (z 6) (tz p g) = z (tz p g) := fun p g hp hg => by rw [set5_n hp hg, upd_n (by simp only [tz]; omega)]
  obtain ⟨x0, x1, x2, x3⟩ := set5_f (z := upd z 12 (nI (wn + 1))) (q := wn + 1) (a := nI a) (b := nI b) (c := 0) (d := 0) (e := z 6)
  rw [e]
  obtain ⟨o1, o2⟩ := ok_nI (k := wn + 1) (by omega)
  dsimp only
  rw [if_neg (nI_nle (by omega) (by omega))]
  refine Or.inr ⟨o1, o2, ?_⟩
  dsimp only
  generalize set5 (upd z 12 (nI (wn + 1))) (wn + 1) (nI a) (nI b) 0 0 (z 6) = w at ew12 hI o ot x0 x1 x2 x3 ⊢
  have hU : ∀ g, g < 4 → cUIT w g 6 = cUIT z g 6 + w (tz (wn + 1) g) := by
    intro g hg
    have s : ∀ p, 0 < p → p < 6 → uT w p g = uT z p g + (if p = wn + 1 then w (tz (wn + 1) g) else 0) := by
      intro p p0 p6
      rw [uT_n ew12 (by omega) p0 p6, uT_n hw hw5 p0 p6]
      by_cases c : p = wn + 1
      · rw [if_pos (by omega), if_neg (by omega), if_pos c, c]; grind
      · rw [if_neg c]
        by_cases c' : p ≤ wn
        · rw [if_pos (by omega), if_pos c', ot p g c (by omega)]; grind
        · rw [if_neg (by omega), if_neg c']; rfl
    have s0 : uT w 0 g = uT z 0 g := by rw [uT_0, uT_0, o 13 (by omega) (by omega), ot 0 g (by omega) (by omega)]
    rw [cUIT_6, cUIT_6, s0, s 1 (by decide) (by decide), s 2 (by decide) (by decide), s 3 (by decide) (by decide), s 4 (by decide) (by decide), s 5 (by decide) (by decide)]
    generalize w (tz (wn + 1) g) = X
    have hs : (if 1 = wn + 1 then X else 0) + (if 2 = wn + 1 then X else 0) + (if 3 = wn + 1 then X else 0) + (if 4 = wn + 1 then X else 0) + (if 5 = wn + 1 then X else 0) = X := by
      rcases (show wn = 0 ∨ wn = 1 ∨ wn = 2 ∨ wn = 3 ∨ wn = 4 by omega) with rfl | rfl | rfl | rfl | rfl
      all_goals simp
    generalize (if 1 = wn + 1 then X else 0) = a1 at hs ⊢
    generalize (if 2 = wn + 1 then X else 0) = a2 at hs ⊢
    generalize (if 3 = wn + 1 then X else 0) = a3 at hs ⊢
    generalize (if 4 = wn + 1 then X else 0) = a4 at hs ⊢
    generalize (if 5 = wn + 1 then X else 0) = a5 at hs ⊢
    rw [← hs]
    grind
  obtain ⟨hm, b', c, d, ee, ⟨F, hF, eF⟩, q⟩ := h.mono
  obtain ⟨F', eF'⟩ : ∃ q, q = upd (upd f 0 (f 0 + nI a)) 1 (f 1 + nI b) := ⟨_, rfl⟩
  rw [← eF']
  have g2 : ∀ j, 2 ≤ j → F' j = f j := fun j hj => by rw [eF', upd_n (by omega), upd_n (by omega)]
  have gx : ∀ j, j < 4 → F' j = f j + w (tz (wn + 1) j) := by
    intro j hj
    rcases (show j = 0 ∨ j = 1 ∨ j = 2 ∨ j = 3 by omega) with rfl | rfl | rfl | rfl
    · rw [eF', upd_n (by decide), upd_s, x0]
    · rw [eF', upd_s, x1]
    · rw [g2 2 (by omega), x2]; grind
    · rw [g2 3 (by omega), x3]; grind
  refine ⟨⟨hI, fun i hi => by rw [o _ (by omega) (by omega)]; exact hm.2.1 i hi, by rw [o 6 (by omega) (by omega)]; exact hm.2.2.1, hm.2.2.2.cg (fun i hi => ⟨o _ (by simp only [hz]; omega) (by simp only [hz]; omega), o _ (by simp only [hz]; omega) (by simp only [hz]; omega)⟩)⟩, fun g hg => ?_, ?_, ?_, ?_, ⟨F, hF, ?_⟩, fun g hg => ?_⟩
  · rw [gx g hg, g2 (4 + g) (by omega), g2 (8 + g) (by omega), b' g hg]
    unfold wU
    rw [hU g hg, o (14 + g) (by omega) (by omega), o (18 + g) (by omega) (by omega), o (22 + g) (by omega) (by omega)]
    grind
  · rw [← c]
    unfold dS
    rw [sPl_cg (fun j hj => o _ (by omega) (by omega)), o 9 (by omega) (by omega), o 8 (by omega) (by omega), o 10 (by omega) (by omega)]
  · rw [o 7 (by omega) (by omega), o 8 (by omega) (by omega)]; exact d
  · rw [g2 8 (by omega), g2 9 (by omega), g2 10 (by omega), g2 11 (by omega), ← ee]
    unfold dM
    rw [hMv_cg (fun j hj => o _ (by simp only [hz]; omega) (by simp only [hz]; omega)), hSp_cg (fun j hj => o _ (by simp only [hz]; omega) (by simp only [hz]; omega)), tSt_cg (fun j hj => o _ (by omega) (by omega)), lSp_cg (fun j hj => o _ (by omega) (by omega))]
  · rw [← eF]
    unfold dF
    rw [hSp_cg (fun j hj => o _ (by simp only [hz]; omega) (by simp only [hz]; omega)), lSp_cg (fun j hj => o _ (by omega) (by omega))]
  · rw [g2 (8 + g) (by omega)]; exact q g hg
theorem act_step {z : xV} {f : Nat → Int32} {n : Nat} (h : LV z f n) (x y : Int32) : OpR (aQ z x y) z f (aF z x y f) n := by
  by_cases h0 : (lw x (18 : Int32)) = 0
  · rw [aQ_0 h0, aF_0 h0]
    obtain ⟨a, ha, ea⟩ : ∃ a, a < 300 ∧ (lw (y >>> ((5 : Int32) &&& 31)) (300 : Int32)) = nI a := lw_rg _ (n := 300) (by decide) (by decide)
    obtain ⟨b1, hb1, eb1⟩ : ∃ b, b < 2 ∧ (lw (y >>> ((2 : Int32) &&& 31)) (2 : Int32)) = nI b := lw_rg _ (n := 2) (by decide) (by decide)
    obtain ⟨b2, hb2, eb2⟩ : ∃ b, b < 150 ∧ (lw (y >>> ((7 : Int32) &&& 31)) (150 : Int32)) = nI b := lw_rg _ (n := 150) (by decide) (by decide)
    rw [ea, eb1, eb2, pk_mul]
    have hb : b1 * b2 ≤ 400 := by
      have := Nat.mul_le_mul (show b1 ≤ 1 by omega) (show b2 ≤ 149 by omega)
      omega
    exact op_arrive h (by omega) hb
  by_cases h1 : (lw x (18 : Int32)) = 1
  · rw [aQ_1 h1, aF_1 h1]
    obtain ⟨a, ha, ea⟩ : ∃ a, a < 300 ∧ (lw (y >>> ((5 : Int32) &&& 31)) (300 : Int32)) = nI a := lw_rg _ (n := 300) (by decide) (by decide)
    obtain ⟨b1, hb1, eb1⟩ : ∃ b, b < 2 ∧ (lw (y >>> ((2 : Int32) &&& 31)) (2 : Int32)) = nI b := lw_rg _ (n := 2) (by decide) (by decide)
    obtain ⟨b2, hb2, eb2⟩ : ∃ b, b < 150 ∧ (lw (y >>> ((7 : Int32) &&& 31)) (150 : Int32)) = nI b := lw_rg _ (n := 150) (by decide) (by decide)
    rw [ea, eb1, eb2, pk_mul]
    have hb : b1 * b2 ≤ 400 := by
      have := Nat.mul_le_mul (show b1 ≤ 1 by omega) (show b2 ≤ 149 by omega)
      omega
    exact op_arrive h (by omega) hb
  by_cases h2 : (lw x (18 : Int32)) = 2
  · rw [aQ_2 h2, aF_2 h2]
    exact op_berth h
  by_cases h3 : (lw x (18 : Int32)) = 3
  · rw [aQ_3 h3, aF_3 h3]
    exact op_berth h
  by_cases h4 : (lw x (18 : Int32)) = 4
  · rw [aQ_4 h4, aF_4 h4]
    exact op_connect h _ _
  by_cases h5 : (lw x (18 : Int32)) = 5
  · rw [aQ_5 h5, aF_5 h5]
    exact op_connect h _ _
  by_cases h6 : (lw x (18 : Int32)) = 6
  · rw [aQ_6 h6, aF_6 h6]
    exact op_connect h _ _
  by_cases h7 : (lw x (18 : Int32)) = 7
  · rw [aQ_7 h7, aF_7 h7]
    exact op_disconnect h _
  by_cases h8 : (lw x (18 : Int32)) = 8
  · rw [aQ_8 h8, aF_8 h8]
    split
    · exact op_mend h _
    · exact op_flush h _
  by_cases h9 : (lw x (18 : Int32)) = 9
  · rw [aQ_9 h9, aF_9 h9]
    exact op_leave h
  by_cases h10 : (lw x (18 : Int32)) = 10
  · rw [aQ_10 h10, aF_10 h10]
    split
    · exact op_boom h (Or.inl rfl)
    · exact op_boom h (Or.inr rfl)
  by_cases h11 : (lw x (18 : Int32)) = 11
  · rw [aQ_11 h11, aF_11 h11]
    split
    · exact op_boom h (Or.inl rfl)
    · exact op_boom h (Or.inr rfl)
  by_cases h12 : (lw x (18 : Int32)) = 12
  · rw [aQ_12 h12, aF_12 h12]
    obtain ⟨g, hg, eg⟩ : ∃ a, a < 3 ∧ (lw (y >>> ((3 : Int32) &&& 31)) (3 : Int32)) = nI a := lw_rg _ (n := 3) (by decide) (by decide)
    obtain ⟨d, hd, ed⟩ : ∃ a, a < 40 ∧ (lw (y >>> ((5 : Int32) &&& 31)) (40 : Int32)) = nI a := lw_rg _ (n := 40) (by decide) (by decide)
    have ed' : (1 : Int32) + nI d = nI (1 + d) := nI_add 1 d
    rw [eg, ed, ed']
    refine op_draw h (g := nI g) (d := 1 + d) ?_ (by omega)
    rcases (show g = 0 ∨ g = 1 ∨ g = 2 by omega) with rfl | rfl | rfl <;> decide
  by_cases h13 : (lw x (18 : Int32)) = 13
  · rw [aQ_13 h13, aF_13 h13]
    exact op_set h _ _
  by_cases h14 : (lw x (18 : Int32)) = 14
  · rw [aQ_14 h14, aF_14 h14]
    exact op_reach h _ _
  rw [aQ_d h0 h1 h2 h3 h4 h5 h6 h7 h8 h9 h10 h11 h12 h13 h14, aF_d h0 h1 h2 h3 h4 h5 h6 h7 h8 h9 h10 h11 h12 h13 h14]
  obtain ⟨d, hd, ed⟩ : ∃ a, a < 10 ∧ (lw y (10 : Int32)) = nI a := lw_rg _ (n := 10) (by decide) (by decide)
  have ed' : (1 : Int32) + nI d = nI (1 + d) := nI_add 1 d
  rw [ed, ed']
  exact op_pass h (k := 1 + d) (by omega)
