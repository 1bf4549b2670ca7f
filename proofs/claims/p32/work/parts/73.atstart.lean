/-! where the law starts -/
/-- a new outer object -/
def OC (U : xU) (μ : xH) (shs : Nat → Nat → Nat) (q : Nat → Nat) : Prop :=
  (∀ r s n k, r < 11 → s < 11 → n < 23 → k < 23 → shs r n = shs s k → r = s) ∧ (∀ r, r < 11 → JRep U μ (shs r) zI) ∧ (∀ i j, i < 7 → j < 7 → q i = q j → i = j) ∧ (∀ r n i, r < 11 → n < 23 → i < 7 → shs r n ≠ q i) ∧
  μ (q 0) = some (.inr (4, [.ref (shs 0 0), .ref (shs 1 0), .ref (q 1), .ref (q 4), .int 0, .ref (shs 2 0), .ref (q 5), .ref (q 6)])) ∧ μ (q 1) = some (.inr (2, [.ref (q 2), .int 0, .int 0, .int 0, .int 0, .int 0, .int 0, .ref (q 3)])) ∧ μ (q 2) = some (.inl (uC U 2, 60, .inl (fun _ => 0))) ∧ μ (q 3) = some (.inl (uC U 0, 4, .inl (fun _ => 0))) ∧
  (∃ f : Nat → Option Nat, μ (q 4) = some (.inl (uC U 5, 6, .inr (.inr (.inr (.inr f))))) ∧ ∀ i, i < 6 → f i = some (shs (3 + i) 0)) ∧ (∃ f : Nat → Option Nat, μ (q 5) = some (.inl (uC U 5, 2, .inr (.inr (.inr (.inr f))))) ∧ ∀ i, i < 2 → f i = some (shs (9 + i) 0)) ∧ μ (q 6) = some (.inl (uC U 1, 2, .inl (fun _ => 0)))
theorem ONew.at {U : xU} {μ0 μ : xH} {a : Nat} {e0 : va_E} (h : ONew U μ0 μ a) (h0 : μ0 a = some e0) : ∃ (shs : Nat → Nat → Nat) (q : Nat → Nat), q 0 = a ∧ OC U μ shs q := by
  obtain ⟨β, shs, q1, q2, q3, q4, q5, q6, j0, j1, j2, j3, j4, j5, j6, j7, j8, j9, j10, hG, hB⟩ := h
  have e0 := (hB.1 0 j0 rfl).2
  have e1 := (hB.1 1 j1 rfl).2
  have e2 := (hB.1 2 j2 rfl).2
  have e3 := (hB.1 3 j3 rfl).2
  have e4 := (hB.1 4 j4 rfl).2
  have e5 := (hB.1 5 j5 rfl).2
  have e6 := (hB.1 6 j6 rfl).2
  have e7 := (hB.1 7 j7 rfl).2
  have e8 := (hB.1 8 j8 rfl).2
  have e9 := (hB.1 9 j9 rfl).2
  have e10 := (hB.1 10 j10 rfl).2
  subst e0 e1 e2 e3 e4 e5 e6 e7 e8 e9 e10
  obtain ⟨q, hqe⟩ : ∃ q : Nat → Nat, q = fun i => match i with | 0 => a | 1 => q1 | 2 => q2 | 3 => q3 | 4 => q4 | 5 => q5 | _ => q6 := ⟨_, rfl⟩
  have hq : ∀ i, i < 7 → [a, q1, q2, q3, q4, q5, q6][i]? = some (q i) := by
    intro i hi
    subst hqe
    rcases (show i = 0 ∨ i = 1 ∨ i = 2 ∨ i = 3 ∨ i = 4 ∨ i = 5 ∨ i = 6 by omega) with rfl | rfl | rfl | rfl | rfl | rfl | rfl <;> rfl
  have hv := hG.2.1
  have hnA : ∀ r n, r < 11 → n < 23 → shs r n ∉ [a, q1, q2, q3, q4, q5, q6] := fun r n hr hn => hB.nA hG rfl h0 hr hn
  have hJ : ∀ r, r < 11 → JRep U β (shs r) zI := fun r hr => (hB.1 r _ (List.getElem?_eq_getElem (by simpa using hr))).1
  refine ⟨shs, q, by subst hqe; rfl, hB.2.1, fun r hr => ?_, fun i j hi hj e => hG.2.2.1 i j (q i) (hq i hi) (by rw [e]; exact hq j hj), fun r n i hr hn hi e => hnA r n hr hn (by rw [e]; exact List.mem_of_getElem? (hq i hi)), ?_, ?_, ?_, ?_, ?_, ?_, ?_⟩
  · obtain ⟨b1, b2, b3⟩ := hJ r hr
    refine ⟨b1, b2, fun n hn => ?_⟩
    obtain ⟨x, g1, g2⟩ := b3 n hn
    exact ⟨x, by rw [hG.2.2.2.1 _ (hnA r n hr hn)]; exact g1, g2⟩
  · subst hqe; exact hv 0 _ _ rfl rfl
  · subst hqe; exact hv 1 _ _ rfl rfl
  · subst hqe; exact hv 2 _ _ rfl rfl
  · subst hqe; exact hv 3 _ _ rfl rfl
  · subst hqe
    refine ⟨_, hv 4 _ _ rfl rfl, fun i hi => ?_⟩
    rcases (show i = 0 ∨ i = 1 ∨ i = 2 ∨ i = 3 ∨ i = 4 ∨ i = 5 by omega) with rfl | rfl | rfl | rfl | rfl | rfl <;> rfl
  · subst hqe
    refine ⟨_, hv 5 _ _ rfl rfl, fun i hi => ?_⟩
    rcases (show i = 0 ∨ i = 1 by omega) with rfl | rfl <;> rfl
  · subst hqe; exact hv 6 _ _ rfl rfl
theorem LR.start {U : xU} {μ : xH} {shs : Nat → Nat → Nat} {q : Nat → Nat} (h : OC U μ shs q) : LR U (fun _ => False) μ (q 0) zI 0 zI zI zI 0 0 := by
  obtain ⟨s1, s2, s3, s4, v0, v1, v2, v3, ⟨f4, v4, w4⟩, ⟨f5, v5, w5⟩, v6⟩ := h
  obtain ⟨o, ho⟩ : ∃ w : Nat → Nat, w = fun i => if i = 0 then q 0 else q (3 + i) := ⟨_, rfl⟩
  have oc : ∀ i, i < 4 → ∃ k, k < 7 ∧ o i = q k ∧ ((i = 0 ∧ k = 0) ∨ (0 < i ∧ k = 3 + i)) := by
    intro i hi
    by_cases h0 : i = 0
    · exact ⟨0, by decide, by rw [ho, h0]; rfl, Or.inl ⟨h0, rfl⟩⟩
    · exact ⟨3 + i, by omega, by rw [ho]; exact if_neg h0, Or.inr ⟨by omega, rfl⟩⟩
  have d2 : ∀ r n i, r < 11 → n < 23 → i < 4 → shs r n ≠ o i := by
    intro r n i hr hn hi e
    obtain ⟨k, hk, e2, -⟩ := oc i hi
    exact s4 r n k hr hn hk (e.trans e2)
  obtain ⟨lab, hlab⟩ : ∃ w : Nat → Nat, w = fun x => @ite _ (∃ r n, r < 11 ∧ n < 23 ∧ x = shs r n) (Classical.propDecidable _) 0 (@ite _ (∃ i, i < 4 ∧ x = o i) (Classical.propDecidable _) 2 3) := ⟨_, rfl⟩
  have l0 : ∀ r n, r < 11 → n < 23 → lab (shs r n) = 0 := fun r n hr hn => by rw [hlab]; exact if_pos ⟨r, n, hr, hn, rfl⟩
  have l2 : ∀ i, i < 4 → lab (o i) = 2 := fun i hi => by
    rw [hlab]
    exact (if_neg (fun ⟨r, n, hr, hn, e⟩ => d2 r n i hr hn hi e.symm)).trans (if_pos ⟨i, hi, rfl⟩)
  have o0 : o 0 = q 0 := by rw [ho]; rfl
  have o1 : o 1 = q 4 := by rw [ho]; rfl
  have o2 : o 2 = q 5 := by rw [ho]; rfl
  have o3 : o 3 = q 6 := by rw [ho]; rfl
  refine ⟨lab, shs, fun _ => q 1, o, fun _ => zI, fun _ => 0, fun _ => 0, o0, fun q hq => hq.elim, ⟨⟨s1, l0, trivial, fun i j hi hj e => ?_, l2⟩, s2, trivial, by decide, ?_⟩, rfl, fun _ => rfl, rfl, rfl, rfl, rfl⟩
  · obtain ⟨k, hk, e2, c⟩ := oc i hi
    obtain ⟨k', hk', e3, c'⟩ := oc j hj
    have := s3 k k' hk hk' (e2.symm.trans (e.trans e3))
    omega
  · unfold OWp OW ofs
    rw [o0, o1, o2, o3]
    exact ⟨v0, ⟨f4, v4, w4⟩, ⟨f5, v5, w5⟩, _, v6, fun i _ => rfl⟩
theorem zI_hi {k : Nat} (h : 50 ≤ k) : zI k = 0 := by
  unfold zI
  rw [if_neg (by omega), if_neg (by omega)]
theorem IV_zI : IV zI := by
  refine ⟨by decide +kernel, by decide +kernel, by decide +kernel, by decide +kernel, by decide +kernel, by decide +kernel, by decide +kernel, fun p hp _ g hg => ?_⟩
  rw [zI_hi (by simp only [tz]; omega)]
  decide
theorem LV.start : LV zI (fun _ => 0) 0 := by
  refine ⟨⟨IV_zI, fun i hi => zI_hi (by omega), ⟨0, by decide, rfl⟩, fun i hi hg => ?_⟩, by decide +kernel, by decide +kernel, by decide +kernel, by decide +kernel, ⟨0, by decide, by decide +kernel⟩, fun g hg => ⟨0, by decide, rfl⟩⟩
  have h : ∀ i, i < 4 → isG (zI (hz i 2)) = false := by decide +kernel
  rw [h i hi] at hg
  cases hg
