/-! what holds behind each turn's change -/
def mZ (z : xV) (n : Nat) : Prop := IV z ∧ (∀ i, i < 4 → z (80 + i) = 0) ∧ (∃ h, h ≤ 10 * n ∧ z 6 = nI h) ∧ CB z
def LV (z : xV) (f : Nat → Int32) (n : Nat) : Prop :=
  mZ z n ∧ (∀ g, g < 4 → f g = wU z g + f (4 + g) + f (8 + g)) ∧ dS z = 0 ∧ (z 7 = 0 → z 8 = 0) ∧ dM z = f 8 + f 9 + f 10 + f 11 ∧
  (∃ F, F ≤ 5 * n ∧ dF z = nI F) ∧ ∀ g, g < 4 → ∃ d, d ≤ 40 * n ∧ f (8 + g) = nI d
theorem mZ.mono {z : xV} {n : Nat} (h : mZ z n) : mZ z (n + 1) := by
  obtain ⟨a, b, ⟨k, hk, e⟩, d⟩ := h
  exact ⟨a, b, ⟨k, by omega, e⟩, d⟩
theorem LV.mono {z : xV} {f : Nat → Int32} {n : Nat} (h : LV z f n) : LV z f (n + 1) := by
  obtain ⟨a, b, c, d, e, ⟨F, hF, eF⟩, g⟩ := h
  exact ⟨a.mono, b, c, d, e, ⟨F, by omega, eF⟩, fun k hk => by
    obtain ⟨d, hd, ed⟩ := g k hk
    exact ⟨d, by omega, ed⟩⟩
theorem LV.of {z w : xV} {f : Nat → Int32} {n : Nat} (h : LV z f n) (hw : mZ w (n + 1)) (hc : HC z w) : LV w f (n + 1) := by
  obtain ⟨a, b, c, d, e, g, k⟩ := h.mono
  refine ⟨hw, fun g hg => ?_, ?_, hc.2.2.2.2 d, ?_, ?_, k⟩
  · rw [hc.1 g hg]; exact b g hg
  · rw [hc.2.1]; exact c
  · rw [hc.2.2.1]; exact e
  · rw [hc.2.2.2.1]; exact g
def OpR (q : Int32 × xV) (z : xV) (f f' : Nat → Int32) (n : Nat) : Prop := (isErr q.1 = true ∧ q.1 < -100000 ∧ q.2 = z ∧ f' = f) ∨ (isErr q.1 = false ∧ ¬ q.1 < 0 ∧ LV q.2 f' (n + 1))
theorem OpR.no {q : Int32 × xV} {z : xV} {f f' : Nat → Int32} {n : Nat} (v : Int32) (h1 : isErr v = true) (h2 : v < -100000) (hq : q = (v, z)) (hf : f' = f) : OpR q z f f' n := Or.inl (by rw [hq]; exact ⟨h1, h2, rfl, hf⟩)
theorem ok_nI {k : Nat} (h : k < 2 ^ 31) : isErr (nI k) = false ∧ ¬ nI k < 0 := by
  refine ⟨?_, nI_pos h⟩
  unfold isErr
  have : ¬ nI k ≤ -100001 := by
    rw [i_le, nI_toInt h]
    have : (-100001 : Int32).toInt = -100001 := rfl
    omega
  rw [decide_eq_false this, Bool.false_and]
theorem ok_rg {x : Int32} {hi : Nat} (hh : hi < 2147483648) (h : rg x 0 (nI hi)) : isErr x = false ∧ ¬ x < 0 := by
  obtain ⟨k, -, hk, e⟩ := rgN (lo := 0) (hi := hi) hh (by omega) h
  rw [e]; exact ok_nI (by omega)
theorem rg0 {x lo hi : Int32} (h : rg x lo hi) (h0 : 0 ≤ lo) : rg x 0 hi := ⟨Int32.le_trans h0 h.1, h.2⟩
theorem CB.up2 {z : xV} {i : Nat} {v : Int32} (h : CB z) (hi : i < 4) (hv : isG v = true → z (hz i 3) = 0) : CB (upd z (hz i 2) v) := by
  intro j hj hg
  rw [upd_n (by simp only [hz]; omega)]
  by_cases e : j = i
  · subst e
    rw [upd_s] at hg
    exact hv hg
  · rw [upd_n (by simp only [hz]; omega)] at hg
    exact h j hj hg
theorem CB.up3 {z : xV} {i : Nat} (h : CB z) (hi : i < 4) : CB (upd z (hz i 3) 0) := by
  intro j hj hg
  rw [upd_n (by simp only [hz]; omega)] at hg
  by_cases e : j = i
  · subst e; rw [upd_s]
  · rw [upd_n (by simp only [hz]; omega)]
    exact h j hj hg
theorem CB.upo {z : xV} {k : Nat} {v : Int32} (h : CB z) (hk : ∀ i, i < 4 → k ≠ hz i 2 ∧ k ≠ hz i 3) : CB (upd z k v) := h.cg (fun i hi => ⟨upd_n (hk i hi).1.symm, upd_n (hk i hi).2.symm⟩)
theorem mZ.up {z : xV} {n k : Nat} {v : Int32} (h : mZ z n) (hV : VC z k v) (h6 : k ≠ 6) (h80 : k < 80) (hk : ∀ i, i < 4 → k ≠ hz i 2 ∧ k ≠ hz i 3) : mZ (upd z k v) n := by
  obtain ⟨a, b, ⟨m, hm, e⟩, d⟩ := h
  exact ⟨a.up hV, fun i hi => by rw [upd_n (by omega)]; exact b i hi, ⟨m, hm, by rw [upd_n h6.symm]; exact e⟩, d.upo hk⟩
theorem mZ.hz2 {z : xV} {n i : Nat} {v : Int32} (h : mZ z n) (hi : i < 4) (hV : VC z (hz i 2) v) (hv : isG v = true → z (hz i 3) = 0) : mZ (upd z (hz i 2) v) n := by
  obtain ⟨a, b, ⟨m, hm, e⟩, d⟩ := h
  exact ⟨a.up hV, fun i hi => by rw [upd_n (by simp only [hz]; omega)]; exact b i hi, ⟨m, hm, by rw [upd_n (by simp only [hz]; omega)]; exact e⟩, d.up2 hi hv⟩
theorem mZ.hz3 {z : xV} {n i : Nat} (h : mZ z n) (hi : i < 4) : mZ (upd z (hz i 3) 0) n := by
  obtain ⟨a, b, ⟨m, hm, e⟩, d⟩ := h
  exact ⟨a.up (VC.h3 hi (Or.inl rfl)), fun i hi => by rw [upd_n (by simp only [hz]; omega)]; exact b i hi, ⟨m, hm, by rw [upd_n (by simp only [hz]; omega)]; exact e⟩, d.up3 hi⟩
theorem VC.set {z : xV} {k : Nat} {v : Int32} (hk : k < 6) (h : rg v (xsV 1 k) (xsV 2 k)) : VC z k v := by
  refine ⟨⟨?_, ?_, ?_, ?_, ?_, ?_⟩, ?_, ?_, ?_, ?_, fun g hg q => ?_, fun i hi => ⟨fun q => ?_, fun q => ?_, fun q => ?_, fun q => ?_⟩, fun p hp g hg q _ => ?_⟩
  · intro e; subst e; exact h
  · intro e; subst e; exact h
  · intro e; subst e; exact h
  · intro e; subst e; exact h
  · intro e; subst e; exact h
  · intro e; subst e; exact h
  all_goals (try simp only [hz, tz] at *)
  all_goals (intros; omega)
theorem set_ok {m : xV} (hv : IV m) {k : Nat} (hk : k < 6) : isErr (m k) = false ∧ ¬ m k < 0 := by
  obtain ⟨a0, a1, a2, a3, a4, a5⟩ := hv.1
  rcases (show k = 0 ∨ k = 1 ∨ k = 2 ∨ k = 3 ∨ k = 4 ∨ k = 5 by omega) with rfl | rfl | rfl | rfl | rfl | rfl
  · exact ok_rg (hi := 150) (by decide) (rg0 a0 (by decide))
  · exact ok_rg (hi := 40) (by decide) (rg0 a1 (by decide))
  · exact ok_rg (hi := 20) (by decide) (rg0 a2 (by decide))
  · exact ok_rg (hi := 40) (by decide) (rg0 a3 (by decide))
  · exact ok_rg (hi := 99) (by decide) (rg0 a4 (by decide))
  · exact ok_rg (hi := 99) (by decide) (rg0 a5 (by decide))
section XOPS
variable {z : xV} {f : Nat → Int32} {n : Nat}
theorem op_set (h : LV z f n) (s v : Int32) : OpR (gSet z s v) z f f n := by
  unfold gSet
  by_cases c0 : s < 0 ∨ 6 ≤ s
  · exact OpR.no (-100002) (by decide) (by decide) (by rw [if_pos c0]) rfl
  have hlt : tn s < 6 := by
    have c1 : ¬ s < 0 := fun q => c0 (Or.inl q)
    have c2 : ¬ 6 ≤ s := fun q => c0 (Or.inr q)
    rw [i_lt] at c1
    rw [i_le] at c2
    have e0 : (0 : Int32).toInt = 0 := rfl
    have e6 : (6 : Int32).toInt = 6 := rfl
    rw [e0] at c1
    rw [e6] at c2
    show s.toInt.toNat < 6
    omega
  rw [if_neg c0]
  by_cases c2 : v < xsV 1 (tn s) ∨ xsV 2 (tn s) < v
  · exact OpR.no (-100002) (by decide) (by decide) (by rw [if_pos c2]) rfl
  rw [if_neg c2]
  have r2 : rg v (xsV 1 (tn s)) (xsV 2 (tn s)) := ⟨Int32.not_lt.mp (fun q => c2 (Or.inl q)), Int32.not_lt.mp (fun q => c2 (Or.inr q))⟩
  obtain ⟨o1, o2⟩ := set_ok h.1.1 hlt
  exact Or.inr ⟨o1, o2, h.of (h.1.mono.up (VC.set hlt r2) (by omega) (by omega) (fun i hi => by simp only [hz]; omega)) (HC.up (Or.inl (by omega)))⟩
theorem op_reach (h : LV z f n) (g v : Int32) : OpR (gReach z g v) z f f n := by
  unfold gReach
  by_cases c1 : isG g = false
  · exact OpR.no (-100001) (by decide) (by decide) (by rw [if_pos c1]) rfl
  have hlt : tn g < 4 := isG_tn (by simpa using c1)
  rw [if_neg c1]
  by_cases c2 : v < 20 ∨ 120 < v
  · exact OpR.no (-100002) (by decide) (by decide) (by rw [if_pos c2]) rfl
  rw [if_neg c2]
  have c3 : rg v 20 120 := ⟨Int32.not_lt.mp (fun q => c2 (Or.inl q)), Int32.not_lt.mp (fun q => c2 (Or.inr q))⟩
  obtain ⟨o1, o2⟩ := ok_rg (hi := 120) (by decide) (rg0 (h.1.1.2.2.2.2.2.2.1 _ hlt).1 (by decide))
  exact Or.inr ⟨o1, o2, h.of (h.1.mono.up (VC.h0 hlt c3) (by simp only [hz]; omega) (by simp only [hz]; omega) (fun i hi => by simp only [hz]; omega)) (HC.up (Or.inr (Or.inr (Or.inl (by simp only [hz]; omega)))))⟩
theorem op_disconnect (h : LV z f n) (g : Int32) : OpR (gDisconnect z g) z f f n := by
  unfold gDisconnect
  by_cases c1 : isG g = false
  · exact OpR.no (-100001) (by decide) (by decide) (by rw [if_pos c1]) rfl
  have hlt : tn g < 4 := isG_tn (by simpa using c1)
  rw [if_neg c1]
  by_cases c2 : isG (z (hz (tn g) 2)) = false
  · exact OpR.no (-100005) (by decide) (by decide) (by rw [if_pos c2]) rfl
  rw [if_neg c2]
  have c3 : isG (z (hz (tn g) 2)) = true := by simpa using c2
  obtain ⟨o1, o2⟩ : isErr (z (hz (tn g) 2)) = false ∧ ¬ z (hz (tn g) 2) < 0 := by
    rw [isG_hv c3]
    exact ok_nI (by have : tn (z (hz (tn g) 2)) < 4 := isG_tn c3; omega)
  exact Or.inr ⟨o1, o2, h.of (h.1.mono.hz2 hlt (VC.h2 hlt gvN (fun q => absurd q (by decide))) (fun q => absurd q (by decide))) (HC.up (Or.inr (Or.inr (Or.inl (by simp only [hz]; omega)))))⟩
theorem ok_burstN (m : xV) : isErr (cBurstN m) = false ∧ ¬ cBurstN m < 0 := by
  unfold cBurstN
  generalize decide (¬ m (hz 0 3) = 0) = a
  generalize decide (¬ m (hz 1 3) = 0) = b
  generalize decide (¬ m (hz 2 3) = 0) = c
  generalize decide (¬ m (hz 3 3) = 0) = d
  revert a b c d
  decide
theorem ok_connN (m : xV) : isErr (cConnN m) = false ∧ ¬ cConnN m < 0 := by
  unfold cConnN
  generalize isG (m (hz 0 2)) = a
  generalize isG (m (hz 1 2)) = b
  generalize isG (m (hz 2 2)) = c
  generalize isG (m (hz 3 2)) = d
  revert a b c d
  decide
theorem op_mend (h : LV z f n) (g : Int32) : OpR (gMend z g) z f f n := by
  unfold gMend
  by_cases c1 : isG g = false
  · exact OpR.no (-100001) (by decide) (by decide) (by rw [if_pos c1]) rfl
  have hlt : tn g < 4 := isG_tn (by simpa using c1)
  rw [if_neg c1]
  by_cases c2 : z (hz (tn g) 3) = 0
  · exact OpR.no (-100005) (by decide) (by decide) (by rw [if_pos c2]) rfl
  rw [if_neg c2]
  obtain ⟨o1, o2⟩ := ok_burstN (upd (upd z (hz (tn g) 3) 0) (hz (tn g) 1) (-100006))
  exact Or.inr ⟨o1, o2, h.of ((h.1.mono.hz3 hlt).up (VC.h1 hlt gvN) (by simp only [hz]; omega) (by simp only [hz]; omega) (fun i hi => by simp only [hz]; omega)) ((HC.up (Or.inr (Or.inr (Or.inl (by simp only [hz]; omega))))).tr (HC.up (Or.inr (Or.inr (Or.inl (by simp only [hz]; omega))))))⟩
theorem op_connect (h : LV z f n) (g v : Int32) : OpR (gConnect z g v) z f f n := by
  unfold gConnect
  by_cases c1 : isG g = false ∨ isG v = false
  · exact OpR.no (-100001) (by decide) (by decide) (by rw [if_pos c1]) rfl
  have c1h : isG g = true := by
    cases q : isG g
    · exact absurd (Or.inl q) c1
    · rfl
  have c1g : isG v = true := by
    cases q : isG v
    · exact absurd (Or.inr q) c1
    · rfl
  have hlt : tn g < 4 := isG_tn c1h
  rw [if_neg c1]
  by_cases c2 : z 13 = 0 ∨ ¬ z (hz (tn g) 3) = 0 ∨ isG (z (hz (tn g) 2)) = true
  · exact OpR.no (-100005) (by decide) (by decide) (by rw [if_pos c2]) rfl
  rw [if_neg c2]
  by_cases c3 : z (hz (tn g) 0) < cHeight z (cDraught z 0) (z 6)
  · exact OpR.no (-100005) (by decide) (by decide) (by rw [if_pos c3]) rfl
  rw [if_neg c3]
  have d13 : z 13 = 1 := h.1.1.2.2.2.1.resolve_left (fun q => c2 (Or.inl q))
  have d3 : z (hz (tn g) 3) = 0 := Decidable.not_not.mp (fun q => c2 (Or.inr (Or.inl q)))
  obtain ⟨o1, o2⟩ := ok_connN (upd z (hz (tn g) 2) v)
  exact Or.inr ⟨o1, o2, h.of (h.1.mono.hz2 hlt (VC.h2 hlt (Or.inr c1g) (fun _ => d13)) (fun _ => d3)) (HC.up (Or.inr (Or.inr (Or.inl (by simp only [hz]; omega)))))⟩
theorem op_boom (h : LV z f n) {b : Int32} (hb : xz b) : OpR (gBoom z b) z f f n := by
  unfold gBoom
  by_cases c1 : z 7 = b
  · exact OpR.no (-100005) (by decide) (by decide) (by rw [if_pos c1]) rfl
  rw [if_neg c1]
  dsimp only
  obtain ⟨o1, o2⟩ := ok_rg (hi := 200) (by decide) h.1.1.2.1
  refine Or.inr ⟨o1, o2, h.of (((h.1.mono.up (VC.laid hb) (by decide) (by decide) (fun i hi => by simp only [hz]; omega)).up (VC.free (Or.inr (Or.inr (Or.inl rfl)))) (by decide) (by decide) (fun i hi => by simp only [hz]; omega)).up (VC.held ⟨by decide, by decide⟩) (by decide) (by decide) (fun i hi => by simp only [hz]; omega)) ?_⟩
  have o : ∀ k, k ≠ 7 → k ≠ 8 → k ≠ 10 → upd (upd (upd z 7 b) 10 (upd z 7 b 10 + z 8)) 8 0 k = z k := fun k k1 k2 k3 => by rw [upd_n k2, upd_n k3, upd_n k1]
  have e8 : upd (upd (upd z 7 b) 10 (upd z 7 b 10 + z 8)) 8 0 8 = 0 := upd_s
  have e10 : upd (upd (upd z 7 b) 10 (upd z 7 b 10 + z 8)) 8 0 10 = z 10 + z 8 := by rw [upd_n (by decide), upd_s, upd_n (by decide)]
  dsimp only
  generalize upd (upd (upd z 7 b) 10 (upd z 7 b 10 + z 8)) 8 0 = w at o e8 e10 ⊢
  refine ⟨fun g hg => ?_, ?_, ?_, ?_, fun _ _ => e8⟩
  · unfold wU
    rw [cUIT_cg hg (o 12 (by decide) (by decide) (by decide)) (o 13 (by decide) (by decide) (by decide)) (fun p hp => o _ (by simp only [tz]; omega) (by simp only [tz]; omega) (by simp only [tz]; omega)), o _ (by omega) (by omega) (by omega), o _ (by omega) (by omega) (by omega), o _ (by omega) (by omega) (by omega)]
  · unfold dS
    rw [sPl_cg (fun k hk => o _ (by omega) (by omega) (by omega)), e8, e10, o 9 (by decide) (by decide) (by decide)]
    grind
  · unfold dM
    rw [hMv_cg (fun k hk => o _ (by simp only [hz]; omega) (by simp only [hz]; omega) (by simp only [hz]; omega)), hSp_cg (fun k hk => o _ (by simp only [hz]; omega) (by simp only [hz]; omega) (by simp only [hz]; omega)), tSt_cg (fun k hk => o _ (by omega) (by omega) (by omega)), lSp_cg (fun k hk => o _ (by omega) (by omega) (by omega))]
  · unfold dF
    rw [hSp_cg (fun k hk => o _ (by simp only [hz]; omega) (by simp only [hz]; omega) (by simp only [hz]; omega)), lSp_cg (fun k hk => o _ (by omega) (by omega) (by omega))]
theorem op_pass (h : LV z f n) {k : Nat} (hk : k ≤ 10) : OpR (gPass z (nI k)) z f f n := by
  unfold gPass
  by_cases c2 : nI k < 1 ∨ 48 < nI k
  · exact OpR.no (-100002) (by decide) (by decide) (by rw [if_pos c2]) rfl
  rw [if_neg c2]
  by_cases c4 : 9999 < z 6 + nI k
  · exact OpR.no (-100004) (by decide) (by decide) (by rw [if_pos c4]) rfl
  rw [if_neg c4, show tn (nI k) = k from nI_clamp (by omega)]
  obtain ⟨⟨a, b, ⟨m, hm, e⟩, d⟩, -⟩ := id h
  obtain ⟨v1, u, u1, u2⟩ := a.hours k
  obtain ⟨o1, o2⟩ : isErr (gHours z k).1 = false ∧ ¬ (gHours z k).1 < 0 := by rw [u2]; exact ok_nI (by omega)
  exact Or.inr ⟨o1, o2, h.of ⟨v1, fun i hi => by rw [gHours_o (by omega)]; exact b i hi, ⟨m + k, by omega, gHours_6 e k⟩, d.hours k⟩ (HC.hours k)⟩
theorem op_flush (h : LV z f n) (g : Int32) : OpR (gFlush z g) z f f n := by
  unfold gFlush
  by_cases c1 : isG g = false
  · exact OpR.no (-100001) (by decide) (by decide) (by rw [if_pos c1]) rfl
  have hlt : tn g < 4 := isG_tn (by simpa using c1)
  rw [if_neg c1]
  dsimp only
  by_cases c2 : isG (z (hz (tn g) 2)) = true ∨ isG (z (hz (tn g) 1)) = false
  · exact OpR.no (-100005) (by decide) (by decide) (by rw [if_pos c2]) rfl
  have d2 : isG (z (hz (tn g) 1)) = true := by
    cases q : isG (z (hz (tn g) 1))
    · exact absurd (Or.inr q) c2
    · rfl
  have hg : tn (z (hz (tn g) 1)) < 4 := isG_tn d2
  rw [if_neg c2]
  generalize tn (z (hz (tn g) 1)) = k at hg ⊢
  generalize tn g = i at hlt ⊢
  obtain ⟨s, -, hs, es⟩ := rgN (lo := 0) (hi := 1000) (by decide) (by decide) (h.1.1.2.2.2.2.2.1 _ hg)
  have eu : imin 5 (z (14 + k)) = nI (min 5 s) := imin_rg (m := 5) rfl es (by omega) (by omega)
  rw [eu]
  obtain ⟨o1, o2⟩ := ok_nI (k := min 5 s) (by omega)
  refine Or.inr ⟨o1, o2, ?_⟩
  dsimp only
  have hZ : mZ (upd (upd (upd z (14 + k) (z (14 + k) - nI (min 5 s))) (18 + k) (upd z (14 + k) (z (14 + k) - nI (min 5 s)) (18 + k) + nI (min 5 s))) (hz i 1) (-100006)) (n + 1) := by
    refine ((h.1.mono.up (VC.tank hg ?_) (by omega) (by omega) (fun i hi => by simp only [hz]; omega)).up (VC.free ?_) (by omega) (by omega) (fun i hi => by simp only [hz]; omega)).up (VC.h1 hlt gvN) (by simp only [hz]; omega) (by simp only [hz]; omega) (fun i hi => by simp only [hz]; omega)
    · rw [es, pk_sub (by omega)]
      exact rgM (lo := 0) (hi := 1000) (by omega) (by omega) (by decide)
    · right; right; right; right; left; omega
  have e1 : upd (upd (upd z (14 + k) (z (14 + k) - nI (min 5 s))) (18 + k) (upd z (14 + k) (z (14 + k) - nI (min 5 s)) (18 + k) + nI (min 5 s))) (hz i 1) (-100006) (14 + k) = z (14 + k) + (0 - nI (min 5 s)) := by
    rw [upd_n (by simp only [hz]; omega), upd_n (by omega), upd_s]; grind
  have e2 : upd (upd (upd z (14 + k) (z (14 + k) - nI (min 5 s))) (18 + k) (upd z (14 + k) (z (14 + k) - nI (min 5 s)) (18 + k) + nI (min 5 s))) (hz i 1) (-100006) (18 + k) = z (18 + k) + nI (min 5 s) := by
    rw [upd_n (by simp only [hz]; omega), upd_s, upd_n (by omega)]
  have o : ∀ j, j ≠ 14 + k → j ≠ 18 + k → j ≠ hz i 1 → upd (upd (upd z (14 + k) (z (14 + k) - nI (min 5 s))) (18 + k) (upd z (14 + k) (z (14 + k) - nI (min 5 s)) (18 + k) + nI (min 5 s))) (hz i 1) (-100006) j = z j := fun j k1 k2 k3 => by rw [upd_n k3, upd_n k2, upd_n k1]
  generalize upd (upd (upd z (14 + k) (z (14 + k) - nI (min 5 s))) (18 + k) (upd z (14 + k) (z (14 + k) - nI (min 5 s)) (18 + k) + nI (min 5 s))) (hz i 1) (-100006) = w at hZ e1 e2 o ⊢
  have ol : ∀ j, j < 14 ∨ (22 ≤ j ∧ j < 26) ∨ 50 ≤ j → w j = z j := fun j hj => o j (by omega) (by omega) (by simp only [hz]; omega)
  have oh : ∀ j t, j < 4 → 4 ≤ t → t < 6 → w (hz j t) = z (hz j t) := fun j t k1 k2 k3 => o _ (by simp only [hz]; omega) (by simp only [hz]; omega) (by simp only [hz]; omega)
  have o4 : ∀ j, j < 4 → j ≠ k → w (14 + j) = z (14 + j) := fun j hj k1 => o _ (by omega) (by omega) (by simp only [hz]; omega)
  have o8 : ∀ j, j < 4 → j ≠ k → w (18 + j) = z (18 + j) := fun j hj k1 => o _ (by omega) (by omega) (by simp only [hz]; omega)
  obtain ⟨-, b, c, d, e, ⟨F, hF, eF⟩, q⟩ := id h
  refine ⟨hZ, fun j hj => ?_, ?_, ?_, ?_, ⟨F + min 5 s, by omega, ?_⟩, h.mono.2.2.2.2.2.2⟩
  · rw [b j hj]
    unfold wU
    rw [cUIT_cg hj (ol 12 (by omega)) (ol 13 (by omega)) (fun p hp => ol _ (by simp only [tz]; omega)), ol (22 + j) (by omega)]
    by_cases ej : j = k
    · subst ej; rw [e1, e2]; grind
    · rw [o4 j hj ej, o8 j hj ej]
  · rw [← c]
    unfold dS
    rw [sPl_cg (fun j hj => ol _ (by omega)), ol 9 (by omega), ol 8 (by omega), ol 10 (by omega)]
  · rw [ol 7 (by omega), ol 8 (by omega)]; exact d
  · rw [← e]
    unfold dM
    rw [hMv_cg (fun j hj => oh j 4 hj (by omega) (by omega)), hSp_cg (fun j hj => oh j 5 hj (by omega) (by omega)), tSt_tr hg e1 o4, lSp_tr hg e2 o8]
    grind
  · rw [← nI_add, ← eF]
    unfold dF
    rw [hSp_cg (fun j hj => oh j 5 hj (by omega) (by omega)), lSp_tr hg e2 o8]
    grind
theorem upd_id {v : Nat → Int32} {k : Nat} : upd v k (v k + 0) = v := by
  funext j
  by_cases e : j = k
  · rw [e, upd_s]; grind
  · rw [upd_n e]
theorem op_draw (h : LV z f n) {g : Int32} {d : Nat} (hg : isG g = true) (hd : d ≤ 40) : OpR (gDraw z g (nI d)) z f (upd f (8 + tn g) (f (8 + tn g) + (if (gDraw z g (nI d)).1 < 0 then 0 else nI d))) n := by
  have hlt : tn g < 4 := isG_tn hg
  by_cases c2 : nI d < 1 ∨ 1000 < nI d
  · have e : gDraw z g (nI d) = (-100002, z) := by unfold gDraw; rw [if_neg (by rw [hg]; decide), if_pos c2]
    exact OpR.no (-100002) (by decide) (by decide) e (by rw [e]; exact (congrArg (fun q => upd f (8 + tn g) (f (8 + tn g) + q)) (if_pos (show (-100002 : Int32) < 0 by decide))).trans upd_id)
  by_cases c4 : z (14 + tn g) < nI d
  · have e : gDraw z g (nI d) = (-100005, z) := by unfold gDraw; rw [if_neg (by rw [hg]; decide), if_neg c2, if_pos c4]
    exact OpR.no (-100005) (by decide) (by decide) e (by rw [e]; exact (congrArg (fun q => upd f (8 + tn g) (f (8 + tn g) + q)) (if_pos (show (-100005 : Int32) < 0 by decide))).trans upd_id)
  obtain ⟨s, -, hs, es⟩ := rgN (lo := 0) (hi := 1000) (by decide) (by decide) (h.1.1.2.2.2.2.2.1 _ hlt)
  have hks : d ≤ s := by
    rw [es] at c4
    rcases Nat.lt_or_ge s d with q | q
    · exact absurd (nI_lt q (by omega)) c4
    · exact q
  have ed : z (14 + tn g) - nI d = nI (s - d) := by rw [es, pk_sub hks]
  have e : gDraw z g (nI d) = (nI (s - d), upd z (14 + tn g) (nI (s - d))) := by
    unfold gDraw
    rw [if_neg (by rw [hg]; decide), if_neg c2, if_neg c4]
    dsimp only
    rw [upd_s, ed]
  obtain ⟨o1, o2⟩ := ok_nI (k := s - d) (by omega)
  rw [e, if_neg o2]
  refine Or.inr ⟨o1, o2, ?_⟩
  have hZ : mZ (upd z (14 + tn g) (nI (s - d))) (n + 1) := h.1.mono.up (VC.tank hlt (rgM (lo := 0) (hi := 1000) (by omega) (by omega) (by decide))) (by omega) (by omega) (fun i hi => by simp only [hz]; omega)
  show LV (upd z (14 + tn g) (nI (s - d))) _ (n + 1)
  generalize tn g = k at hlt es ed hZ ⊢
  have e1 : upd z (14 + k) (nI (s - d)) (14 + k) = z (14 + k) + (0 - nI d) := by rw [upd_s, ← ed]; grind
  have o : ∀ j, j ≠ 14 + k → upd z (14 + k) (nI (s - d)) j = z j := fun j k1 => upd_n k1
  generalize upd z (14 + k) (nI (s - d)) = w at hZ e1 o ⊢
  obtain ⟨-, b, c, dd, e, ⟨F, hF, eF⟩, q⟩ := id h
  have o4 : ∀ j, j < 4 → j ≠ k → w (14 + j) = z (14 + j) := fun j hj k1 => o _ (by omega)
  have f4 : ∀ j, j < 4 → j ≠ k → upd f (8 + k) (f (8 + k) + nI d) (8 + j) = f (8 + j) := fun j hj k1 => upd_n (by omega)
  refine ⟨hZ, fun j hj => ?_, ?_, ?_, ?_, ⟨F, by omega, ?_⟩, fun j hj => ?_⟩
  · rw [upd_n (show j ≠ 8 + k by omega), upd_n (show 4 + j ≠ 8 + k by omega), b j hj]
    unfold wU
    rw [cUIT_cg hj (o 12 (by omega)) (o 13 (by omega)) (fun p hp => o _ (by simp only [tz]; omega)), o (22 + j) (by omega), o (18 + j) (by omega)]
    by_cases ej : j = k
    · subst ej; rw [e1, upd_s]; grind
    · rw [o4 j hj ej, f4 j hj ej]
  · rw [← c]
    unfold dS
    rw [sPl_cg (fun j hj => o _ (by omega)), o 9 (by omega), o 8 (by omega), o 10 (by omega)]
  · rw [o 7 (by omega), o 8 (by omega)]; exact dd
  · have es4 : upd f (8 + k) (f (8 + k) + nI d) (8 + 0) + upd f (8 + k) (f (8 + k) + nI d) (8 + 1) + upd f (8 + k) (f (8 + k) + nI d) (8 + 2) + upd f (8 + k) (f (8 + k) + nI d) (8 + 3) = f (8 + 0) + f (8 + 1) + f (8 + 2) + f (8 + 3) + nI d := s4_tr (v := fun j => f (8 + j)) (v' := fun j => upd f (8 + k) (f (8 + k) + nI d) (8 + j)) hlt upd_s f4
    refine Eq.trans ?_ es4.symm
    rw [show f (8 + 0) + f (8 + 1) + f (8 + 2) + f (8 + 3) = dM z from e.symm]
    unfold dM
    rw [hMv_cg (fun j hj => o _ (by simp only [hz]; omega)), hSp_cg (fun j hj => o _ (by simp only [hz]; omega)), tSt_tr hlt e1 o4, lSp_cg (fun j hj => o _ (by omega))]
    grind
  · rw [← eF]
    unfold dF
    rw [hSp_cg (fun j hj => o _ (by simp only [hz]; omega)), lSp_cg (fun j hj => o _ (by omega))]
  · obtain ⟨x, hx, ex⟩ := q j hj
    by_cases ej : j = k
    · subst ej
      exact ⟨x + d, by omega, by rw [upd_s, ex, nI_add]⟩
    · exact ⟨x, by omega, by rw [f4 j hj ej]; exact ex⟩
end XOPS
