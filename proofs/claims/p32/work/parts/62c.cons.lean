/-! what an hour leaves as it is: sums -/
def uT (z : xV) (p g : Nat) : Int32 := if cIsT z (nI p) = 0 then 0 else z (tz p g)
def wU (z : xV) (g : Nat) : Int32 := z (14 + g) + cUIT z g 6 + z (18 + g) + z (22 + g)
def hMv (z : xV) : Int32 := z (hz 0 4) + z (hz 1 4) + z (hz 2 4) + z (hz 3 4)
def hSp (z : xV) : Int32 := z (hz 0 5) + z (hz 1 5) + z (hz 2 5) + z (hz 3 5)
def tSt (z : xV) : Int32 := z 14 + z 15 + z 16 + z 17
def sPl (z : xV) : Int32 := z 22 + z 23 + z 24 + z 25
def dS (z : xV) : Int32 := sPl z - (z 9 + z 8 + z 10)
def dM (z : xV) : Int32 := hMv z + hSp z - tSt z - lSp z
def dF (z : xV) : Int32 := lSp z - hSp z
theorem cUIT_s {z : xV} {g k : Nat} : cUIT z g (k + 1) = cUIT z g k + uT z k g := by
  rw [cUIT]
  unfold uT
  split <;> rfl
theorem cUIT_6 {z : xV} {g : Nat} : cUIT z g 6 = 0 + uT z 0 g + uT z 1 g + uT z 2 g + uT z 3 g + uT z 4 g + uT z 5 g := by
  rw [cUIT_s, cUIT_s, cUIT_s, cUIT_s, cUIT_s, cUIT_s]
  rfl
theorem cIsT_cg {z w : xV} (h12 : w 12 = z 12) (h13 : w 13 = z 13) (p : Int32) : cIsT w p = cIsT z p := by
  unfold cIsT
  rw [h12, h13]
theorem cUIT_cg {z w : xV} {g : Nat} (hg : g < 4) (h12 : w 12 = z 12) (h13 : w 13 = z 13) (h : ∀ p, p < 6 → w (tz p g) = z (tz p g)) : cUIT w g 6 = cUIT z g 6 := by
  have e : ∀ p, p < 6 → uT w p g = uT z p g := fun p hp => by
    unfold uT
    rw [cIsT_cg h12 h13, h p hp]
  rw [cUIT_6, cUIT_6, e 0 (by decide), e 1 (by decide), e 2 (by decide), e 3 (by decide), e 4 (by decide), e 5 (by decide)]
/-- the tanker at the berth gives some away -/
theorem cUIT_tr {z w : xV} {g : Nat} {u : Int32} (hg : g < 4) (h12 : w 12 = z 12) (h13 : w 13 = z 13) (h1 : ¬ z 13 = 0) (h0 : w (tz 0 g) = z (tz 0 g) - u) (h : ∀ p, 0 < p → p < 6 → w (tz p g) = z (tz p g)) : cUIT w g 6 = cUIT z g 6 - u := by
  have e : ∀ p, 0 < p → p < 6 → uT w p g = uT z p g := fun p hp0 hp => by
    unfold uT
    rw [cIsT_cg h12 h13, h p hp0 hp]
  have e0 : uT w 0 g = uT z 0 g - u := by
    have c : ¬ cIsT z (nI 0) = 0 := h1
    unfold uT
    rw [cIsT_cg h12 h13, if_neg c, if_neg c, h0]
  rw [cUIT_6, cUIT_6, e0, e 1 (by decide) (by decide), e 2 (by decide) (by decide), e 3 (by decide) (by decide), e 4 (by decide) (by decide), e 5 (by decide) (by decide)]
  grind
theorem s4_tr {v v' : Nat → Int32} {g : Nat} {u : Int32} (hg : g < 4) (h1 : v' g = v g + u) (ho : ∀ k, k < 4 → k ≠ g → v' k = v k) : v' 0 + v' 1 + v' 2 + v' 3 = v 0 + v 1 + v 2 + v 3 + u := by
  rcases (show g = 0 ∨ g = 1 ∨ g = 2 ∨ g = 3 by omega) with rfl | rfl | rfl | rfl
  · rw [h1, ho 1 (by decide) (by decide), ho 2 (by decide) (by decide), ho 3 (by decide) (by decide)]; grind
  · rw [h1, ho 0 (by decide) (by decide), ho 2 (by decide) (by decide), ho 3 (by decide) (by decide)]; grind
  · rw [h1, ho 0 (by decide) (by decide), ho 1 (by decide) (by decide), ho 3 (by decide) (by decide)]; grind
  · rw [h1, ho 0 (by decide) (by decide), ho 1 (by decide) (by decide), ho 2 (by decide) (by decide)]; grind
theorem s4_cg {v v' : Nat → Int32} (ho : ∀ k, k < 4 → v' k = v k) : v' 0 + v' 1 + v' 2 + v' 3 = v 0 + v 1 + v 2 + v 3 := by
  rw [ho 0 (by decide), ho 1 (by decide), ho 2 (by decide), ho 3 (by decide)]
theorem hMv_tr {z w : xV} {i : Nat} {u : Int32} (hi : i < 4) (h1 : w (hz i 4) = z (hz i 4) + u) (ho : ∀ k, k < 4 → k ≠ i → w (hz k 4) = z (hz k 4)) : hMv w = hMv z + u := s4_tr (v := fun k => z (hz k 4)) (v' := fun k => w (hz k 4)) hi h1 ho
theorem hSp_tr {z w : xV} {i : Nat} {u : Int32} (hi : i < 4) (h1 : w (hz i 5) = z (hz i 5) + u) (ho : ∀ k, k < 4 → k ≠ i → w (hz k 5) = z (hz k 5)) : hSp w = hSp z + u := s4_tr (v := fun k => z (hz k 5)) (v' := fun k => w (hz k 5)) hi h1 ho
theorem tSt_tr {z w : xV} {g : Nat} {u : Int32} (hg : g < 4) (h1 : w (14 + g) = z (14 + g) + u) (ho : ∀ k, k < 4 → k ≠ g → w (14 + k) = z (14 + k)) : tSt w = tSt z + u := s4_tr (v := fun k => z (14 + k)) (v' := fun k => w (14 + k)) hg h1 ho
theorem lSp_tr {z w : xV} {g : Nat} {u : Int32} (hg : g < 4) (h1 : w (18 + g) = z (18 + g) + u) (ho : ∀ k, k < 4 → k ≠ g → w (18 + k) = z (18 + k)) : lSp w = lSp z + u := s4_tr (v := fun k => z (18 + k)) (v' := fun k => w (18 + k)) hg h1 ho
theorem sPl_tr {z w : xV} {g : Nat} {u : Int32} (hg : g < 4) (h1 : w (22 + g) = z (22 + g) + u) (ho : ∀ k, k < 4 → k ≠ g → w (22 + k) = z (22 + k)) : sPl w = sPl z + u := s4_tr (v := fun k => z (22 + k)) (v' := fun k => w (22 + k)) hg h1 ho
theorem hMv_cg {z w : xV} (ho : ∀ k, k < 4 → w (hz k 4) = z (hz k 4)) : hMv w = hMv z := s4_cg (v := fun k => z (hz k 4)) (v' := fun k => w (hz k 4)) ho
theorem hSp_cg {z w : xV} (ho : ∀ k, k < 4 → w (hz k 5) = z (hz k 5)) : hSp w = hSp z := s4_cg (v := fun k => z (hz k 5)) (v' := fun k => w (hz k 5)) ho
theorem tSt_cg {z w : xV} (ho : ∀ k, k < 4 → w (14 + k) = z (14 + k)) : tSt w = tSt z := s4_cg (v := fun k => z (14 + k)) (v' := fun k => w (14 + k)) ho
theorem lSp_cg {z w : xV} (ho : ∀ k, k < 4 → w (18 + k) = z (18 + k)) : lSp w = lSp z := s4_cg (v := fun k => z (18 + k)) (v' := fun k => w (18 + k)) ho
theorem sPl_cg {z w : xV} (ho : ∀ k, k < 4 → w (22 + k) = z (22 + k)) : sPl w = sPl z := s4_cg (v := fun k => z (22 + k)) (v' := fun k => w (22 + k)) ho
/-- what stays the same from z to w -/
def HC (z w : xV) : Prop := (∀ g, g < 4 → wU w g = wU z g) ∧ dS w = dS z ∧ dM w = dM z ∧ dF w = dF z ∧ ((z 7 = 0 → z 8 = 0) → (w 7 = 0 → w 8 = 0))
theorem HC.rf {z : xV} : HC z z := ⟨fun _ _ => rfl, rfl, rfl, rfl, id⟩
theorem HC.tr {x y z : xV} (h : HC x y) (h2 : HC y z) : HC x z := ⟨fun g hg => (h2.1 g hg).trans (h.1 g hg), h2.2.1.trans h.2.1, h2.2.2.1.trans h.2.2.1, h2.2.2.2.1.trans h.2.2.2.1, fun q => h2.2.2.2.2 (h.2.2.2.2 q)⟩
theorem HC.cg {z w : xV} (e : ∀ k, (7 ≤ k ∧ k < 11) ∨ (12 ≤ k ∧ k < 26) ∨ (∃ i, i < 4 ∧ (k = hz i 4 ∨ k = hz i 5)) ∨ (∃ p g, p < 6 ∧ g < 4 ∧ k = tz p g) → w k = z k) : HC z w := by
  have e1 : ∀ k, 12 ≤ k ∧ k < 26 → w k = z k := fun k hk => e k (Or.inr (Or.inl hk))
  refine ⟨fun g hg => ?_, ?_, ?_, ?_, ?_⟩
  · unfold wU
    rw [cUIT_cg hg (e1 12 (by omega)) (e1 13 (by omega)) (fun p hp => e _ (Or.inr (Or.inr (Or.inr ⟨p, g, hp, hg, rfl⟩)))), e1 _ (by omega), e1 _ (by omega), e1 _ (by omega)]
  · unfold dS
    rw [sPl_cg (fun k hk => e1 _ (by omega)), e 9 (by omega), e 8 (by omega), e 10 (by omega)]
  · unfold dM
    rw [hMv_cg (fun k hk => e _ (Or.inr (Or.inr (Or.inl ⟨k, hk, Or.inl rfl⟩)))), hSp_cg (fun k hk => e _ (Or.inr (Or.inr (Or.inl ⟨k, hk, Or.inr rfl⟩)))), tSt_cg (fun k hk => e1 _ (by omega)), lSp_cg (fun k hk => e1 _ (by omega))]
  · unfold dF
    rw [hSp_cg (fun k hk => e _ (Or.inr (Or.inr (Or.inl ⟨k, hk, Or.inr rfl⟩)))), lSp_cg (fun k hk => e1 _ (by omega))]
  · rw [e 7 (by omega), e 8 (by omega)]
    exact id
theorem HC.up {z : xV} {k : Nat} {v : Int32} (hk : k < 7 ∨ k = 11 ∨ (26 ≤ k ∧ k < 50 ∧ (k - 26) % 6 < 4) ∨ 80 ≤ k ∨ (∃ p, p < 6 ∧ k = tz p 4)) : HC z (upd z k v) := by
  refine HC.cg (fun j hj => upd_n (fun e => ?_))
  rcases hj with hj | hj | ⟨i, hi, hj | hj⟩ | ⟨p, g, hp, hg, hj⟩ <;> rcases hk with hk | hk | hk | hk | ⟨q, hq, hk⟩ 
  all_goals (try simp only [hz, tz] at *)
  all_goals omega
/-- spilt: from the berth to the boom and the sea -/
theorem HC.spill {z w : xV} {g i : Nat} {u b : Int32} (hg : g < 4) (hi : i < 4) (h13 : ¬ z 13 = 0) (h1 : w (tz 0 g) = z (tz 0 g) - u) (h2 : w (22 + g) = z (22 + g) + u) (h3 : w 8 = z 8 + b) (h4 : w 9 = z 9 + (u - b)) (hb : z 7 = 0 → b = 0) (ho : ∀ k, k ≠ tz 0 g → k ≠ 22 + g → k ≠ 8 → k ≠ 9 → k ≠ hz i 3 → k ≠ hz i 2 → w k = z k) : HC z w := by
  have o : ∀ k, 10 ≤ k → k < 22 → w k = z k := fun k k1 k2 => ho k (by simp only [tz]; omega) (by omega) (by omega) (by omega) (by simp only [hz]; omega) (by simp only [hz]; omega)
  have oh : ∀ k f, k < 4 → 4 ≤ f → f < 6 → w (hz k f) = z (hz k f) := fun k f k1 k2 k3 => ho _ (by simp only [tz, hz]; omega) (by simp only [hz]; omega) (by simp only [hz]; omega) (by simp only [hz]; omega) (by simp only [hz]; omega) (by simp only [hz]; omega)
  have o7 : w 7 = z 7 := ho 7 (by simp only [tz]; omega) (by omega) (by omega) (by omega) (by simp only [hz]; omega) (by simp only [hz]; omega)
  have o2 : ∀ k, k < 4 → k ≠ g → w (22 + k) = z (22 + k) := fun k k1 k2 => ho _ (by simp only [tz]; omega) (by omega) (by omega) (by omega) (by simp only [hz]; omega) (by simp only [hz]; omega)
  have ot : ∀ p k, p < 6 → k < 4 → (p = 0 → k ≠ g) → w (tz p k) = z (tz p k) := fun p k k1 k2 k3 => ho _ (by simp only [tz]; omega) (by simp only [tz]; omega) (by simp only [tz]; omega) (by simp only [tz]; omega) (by simp only [tz, hz]; omega) (by simp only [tz, hz]; omega)
  refine ⟨fun k hk => ?_, ?_, ?_, ?_, ?_⟩
  · unfold wU
    by_cases e : k = g
    · subst e
      rw [cUIT_tr hk (o 12 (by omega) (by omega)) (o 13 (by omega) (by omega)) h13 h1 (fun p p0 p1 => ot p k p1 hk (fun q => absurd q (by omega))), h2, o _ (by omega) (by omega), o _ (by omega) (by omega)]
      grind
    · rw [cUIT_cg hk (o 12 (by omega) (by omega)) (o 13 (by omega) (by omega)) (fun p hp => ot p k hp hk (fun _ => e)), o2 k hk e, o _ (by omega) (by omega), o _ (by omega) (by omega)]
  · unfold dS
    rw [sPl_tr hg h2 (fun k k1 k2 => o2 k k1 k2), h3, h4, o 10 (by omega) (by omega)]
    grind
  · unfold dM
    rw [hMv_cg (fun k hk => oh k 4 hk (by omega) (by omega)), hSp_cg (fun k hk => oh k 5 hk (by omega) (by omega)), tSt_cg (fun k hk => o _ (by omega) (by omega)), lSp_cg (fun k hk => o _ (by omega) (by omega))]
  · unfold dF
    rw [hSp_cg (fun k hk => oh k 5 hk (by omega) (by omega)), lSp_cg (fun k hk => o _ (by omega) (by omega))]
  · intro h q
    rw [o7] at q
    rw [h3, h q, hb q]
    rfl
/-- moved: from the berth to the tank, or spoilt -/
theorem HC.pump {z w : xV} {g i A f : Nat} {u : Int32} (hA : (A = 14 ∧ f = 4) ∨ (A = 18 ∧ f = 5)) (hg : g < 4) (hi : i < 4) (h13 : ¬ z 13 = 0) (h1 : w (tz 0 g) = z (tz 0 g) - u) (h2 : w (A + g) = z (A + g) + u) (h3 : w (hz i f) = z (hz i f) + u) (ho : ∀ k, k ≠ tz 0 g → k ≠ A + g → k ≠ hz i f → k ≠ hz i 1 → w k = z k) : HC z w := by
  have hf : f < 6 := by omega
  have o : ∀ k, 7 ≤ k → k < 26 → k ≠ A + g → w k = z k := fun k k1 k2 k3 => ho k (by simp only [tz]; omega) k3 (by simp only [hz]; omega) (by simp only [hz]; omega)
  have oh : ∀ k f', k < 4 → 4 ≤ f' → f' < 6 → (f' = f → k ≠ i) → w (hz k f') = z (hz k f') := fun k f' k1 k2 k3 k4 => ho _ (by simp only [tz, hz]; omega) (by simp only [hz]; omega) (by simp only [hz]; omega) (by simp only [hz]; omega)
  have ot : ∀ p k, p < 6 → k < 4 → (p = 0 → k ≠ g) → w (tz p k) = z (tz p k) := fun p k k1 k2 k3 => ho _ (by simp only [tz]; omega) (by simp only [tz]; omega) (by simp only [tz, hz]; omega) (by simp only [tz, hz]; omega)
  have e12 := o 12 (by omega) (by omega) (by omega)
  have e13 := o 13 (by omega) (by omega) (by omega)
  refine ⟨fun k hk => ?_, ?_, ?_, ?_, ?_⟩
  · unfold wU
    by_cases e : k = g
    · subst e
      rw [cUIT_tr hk e12 e13 h13 h1 (fun p p0 p1 => ot p k p1 hk (fun q => absurd q (by omega)))]
      rcases hA with ⟨rfl, rfl⟩ | ⟨rfl, rfl⟩
      · rw [h2, o (18 + k) (by omega) (by omega) (by omega), o (22 + k) (by omega) (by omega) (by omega)]; grind
      · rw [h2, o (14 + k) (by omega) (by omega) (by omega), o (22 + k) (by omega) (by omega) (by omega)]; grind
    · rw [cUIT_cg hk e12 e13 (fun p hp => ot p k hp hk (fun _ => e)), o _ (by omega) (by omega) (by omega), o _ (by omega) (by omega) (by omega), o _ (by omega) (by omega) (by omega)]
  · unfold dS
    rw [sPl_cg (fun k hk => o _ (by omega) (by omega) (by omega)), o 9 (by omega) (by omega) (by omega), o 8 (by omega) (by omega) (by omega), o 10 (by omega) (by omega) (by omega)]
  · unfold dM
    rcases hA with ⟨rfl, rfl⟩ | ⟨rfl, rfl⟩
    · rw [hMv_tr hi h3 (fun k k1 k2 => oh k 4 k1 (by omega) (by omega) (fun _ => k2)), hSp_cg (fun k hk => oh k 5 hk (by omega) (by omega) (fun q => by omega)), tSt_tr hg h2 (fun k k1 k2 => o _ (by omega) (by omega) (by omega)), lSp_cg (fun k hk => o _ (by omega) (by omega) (by omega))]
      grind
    · rw [hSp_tr hi h3 (fun k k1 k2 => oh k 5 k1 (by omega) (by omega) (fun _ => k2)), hMv_cg (fun k hk => oh k 4 hk (by omega) (by omega) (fun q => by omega)), lSp_tr hg h2 (fun k k1 k2 => o _ (by omega) (by omega) (by omega)), tSt_cg (fun k hk => o _ (by omega) (by omega) (by omega))]
      grind
  · unfold dF
    rcases hA with ⟨rfl, rfl⟩ | ⟨rfl, rfl⟩
    · rw [hSp_cg (fun k hk => oh k 5 hk (by omega) (by omega) (fun q => by omega)), lSp_cg (fun k hk => o _ (by omega) (by omega) (by omega))]
    · rw [hSp_tr hi h3 (fun k k1 k2 => oh k 5 k1 (by omega) (by omega) (fun _ => k2)), lSp_tr hg h2 (fun k k1 k2 => o _ (by omega) (by omega) (by omega))]
      grind
  · rw [o 7 (by omega) (by omega) (by omega), o 8 (by omega) (by omega) (by omega)]
    exact id
theorem HC.tear {z : xV} : HC z (gTear z) := by
  unfold gTear
  split
  · exact HC.rf
  · dsimp only
    have o : ∀ k, k ≠ 7 → k ≠ 8 → k ≠ 9 → upd (upd (upd z 7 0) 9 (upd z 7 0 9 + upd z 7 0 8)) 8 0 k = z k := fun k k1 k2 k3 => by rw [upd_n k2, upd_n k3, upd_n k1]
    have e8 : upd (upd (upd z 7 0) 9 (upd z 7 0 9 + upd z 7 0 8)) 8 0 8 = 0 := upd_s
    have e9 : upd (upd (upd z 7 0) 9 (upd z 7 0 9 + upd z 7 0 8)) 8 0 9 = z 9 + z 8 := by rw [upd_n (by decide), upd_s, upd_n (by decide), upd_n (by decide)]
    generalize upd (upd (upd z 7 0) 9 (upd z 7 0 9 + upd z 7 0 8)) 8 0 = w at o e8 e9
    refine ⟨fun g hg => ?_, ?_, ?_, ?_, fun _ _ => e8⟩
    · unfold wU
      rw [cUIT_cg hg (o 12 (by decide) (by decide) (by decide)) (o 13 (by decide) (by decide) (by decide)) (fun p hp => o _ (by simp only [tz]; omega) (by simp only [tz]; omega) (by simp only [tz]; omega)), o _ (by omega) (by omega) (by omega), o _ (by omega) (by omega) (by omega), o _ (by omega) (by omega) (by omega)]
    · unfold dS
      rw [sPl_cg (fun k hk => o _ (by omega) (by omega) (by omega)), e8, e9, o 10 (by decide) (by decide) (by decide)]
      grind
    · unfold dM
      rw [hMv_cg (fun k hk => o _ (by simp only [hz]; omega) (by simp only [hz]; omega) (by simp only [hz]; omega)), hSp_cg (fun k hk => o _ (by simp only [hz]; omega) (by simp only [hz]; omega) (by simp only [hz]; omega)), tSt_cg (fun k hk => o _ (by omega) (by omega) (by omega)), lSp_cg (fun k hk => o _ (by omega) (by omega) (by omega))]
    · unfold dF
      rw [hSp_cg (fun k hk => o _ (by simp only [hz]; omega) (by simp only [hz]; omega) (by simp only [hz]; omega)), lSp_cg (fun k hk => o _ (by omega) (by omega) (by omega))]
theorem HC.burst {z : xV} {i : Nat} (hi : i < 4) (h13 : ¬ z 13 = 0) : HC z (gBurst z i) := by
  unfold gBurst
  dsimp only
  have hz2 : HC z (upd (upd z (hz i 3) 1) (hz i 2) (-100006)) := HC.tr (HC.up (Or.inr (Or.inr (Or.inl (by simp only [hz]; omega))))) (HC.up (Or.inr (Or.inr (Or.inl (by simp only [hz]; omega)))))
  split
  · exact hz2
  · rename_i hc
    have hg : tn (z (hz i 2)) < 4 := isG_tn (by simpa using hc)
    refine hz2.tr ?_
    have e13 : ¬ upd (upd z (hz i 3) 1) (hz i 2) (-100006) 13 = 0 := by rw [upd_n (by simp only [hz]; omega), upd_n (by simp only [hz]; omega)]; exact h13
    generalize upd (upd z (hz i 3) 1) (hz i 2) (-100006) = y at e13 ⊢
    generalize tn (z (hz i 2)) = g at hg ⊢
    generalize eu : imin (y 3) (y (tz 0 g)) = u
    generalize eb : (if y 7 = 0 then 0 else imin u (200 - y 8)) = b
    have n1 : tz 0 g ≠ 22 + g := by simp only [tz]; omega
    have n2 : tz 0 g ≠ 8 := by simp only [tz]; omega
    have n3 : tz 0 g ≠ 9 := by simp only [tz]; omega
    refine HC.spill (g := g) (i := i) (u := u) (b := b) hg hi e13 ?_ ?_ ?_ ?_ (fun q => by rw [← eb, if_pos q]) (fun k k1 k2 k3 k4 k5 k6 => ?_)
    · rw [upd_n n3, upd_n n2, upd_n n1, upd_s]
    · rw [upd_n (by omega), upd_n (by omega), upd_s, upd_n n1.symm]
    · rw [upd_n (by decide), upd_s, upd_n (by omega), upd_n n2.symm]
    · rw [upd_s, upd_n (by decide), upd_n (by omega), upd_n n3.symm]
    · rw [upd_n k4, upd_n k3, upd_n k2, upd_n k1]
theorem HC.short {z : xV} {i : Nat} (hi : i < 4) (h13 : ¬ z 13 = 0) : HC z (gShort z i) := by
  unfold gShort
  split
  · exact HC.rf
  · split
    · exact HC.burst hi h13
    · exact HC.up (Or.inr (Or.inr (Or.inl (by simp only [hz]; omega))))
theorem HC.shorts {z : xV} (h13 : ¬ z 13 = 0) : ∀ k, k ≤ 4 → HC z (gShorts z k) := by
  intro k
  induction k with
  | zero => intro _; exact HC.rf
  | succ k ih =>
    intro hk
    rw [gShorts]
    exact (ih (by omega)).tr (HC.short (by omega) (by rw [gShorts_o (by omega) k (by omega)]; exact h13))
theorem HC.bursts {z : xV} : HC z (gBursts z) := by
  unfold gBursts
  split
  · exact HC.rf
  · rename_i h; exact HC.shorts h 4 (by decide)
theorem HC.move {z : xV} {i : Nat} (hi : i < 4) (h13 : ¬ z 13 = 0) : HC z (gMove z i).2 := by
  unfold gMove
  dsimp only
  split
  · exact HC.rf
  rename_i hc
  have hg : tn (z (hz i 2)) < 4 := isG_tn (by simpa using hc)
  generalize tn (z (hz i 2)) = g at hg ⊢
  generalize imin (z 3) (imin (z (tz 0 g)) (1000 - z (14 + g))) = u
  split
  · exact HC.rf
  have n1 : tz 0 g ≠ hz i 1 := by simp only [tz, hz]; omega
  split
  · dsimp only
    refine HC.pump (g := g) (i := i) (A := 18) (f := 5) (u := u) (Or.inr ⟨rfl, rfl⟩) hg hi h13 ?_ ?_ ?_ (fun k k1 k2 k3 k4 => ?_)
    · rw [upd_n (by simp only [tz, hz]; omega), upd_n (by simp only [tz]; omega), upd_n n1, upd_s]
    · rw [upd_n (by simp only [hz]; omega), upd_s, upd_n (by simp only [hz]; omega), upd_n (by simp only [tz]; omega)]
    · rw [upd_s, upd_n (by simp only [hz]; omega), upd_n (by simp only [hz]; omega), upd_n (by simp only [tz, hz]; omega)]
    · rw [upd_n k3, upd_n k2, upd_n k4, upd_n k1]
  · dsimp only
    refine HC.pump (g := g) (i := i) (A := 14) (f := 4) (u := u) (Or.inl ⟨rfl, rfl⟩) hg hi h13 ?_ ?_ ?_ (fun k k1 k2 k3 k4 => ?_)
    · rw [upd_n (by simp only [tz, hz]; omega), upd_n (by simp only [tz]; omega), upd_n n1, upd_s]
    · rw [upd_n (by simp only [hz]; omega), upd_s, upd_n (by simp only [hz]; omega), upd_n (by simp only [tz]; omega)]
    · rw [upd_s, upd_n (by simp only [hz]; omega), upd_n (by simp only [hz]; omega), upd_n (by simp only [tz, hz]; omega)]
    · rw [upd_n k3, upd_n k2, upd_n k4, upd_n k1]
theorem HC.moves {z : xV} (h13 : ¬ z 13 = 0) : ∀ k, k ≤ 4 → HC z (gMoves z k).2 := by
  intro k
  induction k with
  | zero => intro _; exact HC.rf
  | succ k ih =>
    intro hk
    rw [gMoves]
    exact (ih (by omega)).tr (HC.move (by omega) (by rw [gMoves_o (by omega) k (by omega)]; exact h13))
theorem HC.moveU {z : xV} : HC z (gMoveU z).2 := by
  unfold gMoveU
  split
  · exact HC.rf
  · rename_i h; exact HC.moves (fun q => h (Or.inl q)) 4 (by decide)
theorem HC.hour {z : xV} : HC z (gHour z).2 := by
  show HC z (upd _ 11 _)
  exact (((HC.up (Or.inl (by decide))).tr HC.tear).tr HC.bursts).tr (HC.moveU.tr (HC.up (Or.inr (Or.inl rfl))))
theorem HC.hours {z : xV} : ∀ k, HC z (gHours z k).2 := by
  intro k
  induction k with
  | zero => exact HC.rf
  | succ k ih => exact ih.tr HC.hour
