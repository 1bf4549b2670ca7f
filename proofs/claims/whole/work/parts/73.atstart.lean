/-! where the law's loop starts -/
theorem mI_hi {k : Nat} (h : 50 ≤ k) : mI k = 0 := if_neg (by omega)
theorem fok_0 {t : Nat} : fok t 0 := ⟨fun _ => Or.inl rfl, fun _ => rfl⟩
theorem IV_mI : IV mI := by
  refine ⟨by decide +kernel, by decide +kernel, by decide +kernel, by decide +kernel, by decide +kernel, by decide +kernel, by decide +kernel, fun p hp _ g hg => ?_⟩
  rw [mI_hi (by simp only [tz]; omega)]
  decide
theorem zI_mI : Sim zI mI := by
  refine ⟨fun k hk => ?_, fun p hp _ f hf => ?_⟩
  · by_cases h : k < 50
    · exact (if_pos h).symm
    · rw [mI_hi (by omega)]
      unfold zI
      rw [if_neg (by omega), if_neg (by omega)]
  · rw [mI_hi (by simp only [tz]; omega)]
    unfold zI
    rw [if_neg (by simp only [tz]; omega), if_neg (by simp only [tz]; omega)]
theorem mJ_mI : mJ mI := ⟨IV_mI, fun i hi => mI_hi (by omega), ⟨0, by decide, rfl⟩, fun i hi hg => by
  have h : ∀ i, i < 4 → isG (mI (hz i 2)) = false := by decide +kernel
  rw [h i hi] at hg
  cases hg⟩
theorem SimA.start : SimA (fun _ => zI) (fun _ => 0) 0 (fun _ => 0) mI :=
  ⟨⟨zI_mI, mJ_mI⟩, ⟨by decide, mI_hi (by decide)⟩, fun k hk => absurd hk (Nat.not_lt_zero _), fun s hs => ⟨(mI_hi (by omega)).symm, fun h => absurd rfl h⟩, 0, by decide, rfl, mI_hi (by decide), fun i hi => absurd hi (Nat.not_lt_zero _)⟩
theorem bnd (f : Nat → Nat) : ∀ n, ∃ D, ∀ i, i < n → f i < D := by
  intro n
  induction n with
  | zero => exact ⟨0, fun i hi => absurd hi (Nat.not_lt_zero _)⟩
  | succ n ih =>
    obtain ⟨D, h⟩ := ih
    refine ⟨D + f n + 1, fun i hi => ?_⟩
    by_cases e : i = n
    · rw [e]; omega
    · have := h i (by omega)
      omega
/-- a new outer object -/
def OC (U : xU) (μ : xH) (shs : Nat → Nat → Nat) (q : Nat → Nat) : Prop :=
  (∀ r s n k, r < 11 → s < 11 → n < 23 → k < 23 → shs r n = shs s k → r = s) ∧ (∀ r, r < 11 → JRep U μ (shs r) zI) ∧ (∀ i j, i < 7 → j < 7 → q i = q j → i = j) ∧ (∀ r n i, r < 11 → n < 23 → i < 7 → shs r n ≠ q i) ∧
  μ (q 0) = some (.inr (4, [.ref (shs 0 0), .ref (shs 1 0), .ref (q 1), .ref (q 4), .int 0, .ref (shs 2 0), .ref (q 5), .ref (q 6)])) ∧ μ (q 1) = some (.inr (2, [.ref (q 2), .int 0, .int 0, .int 0, .int 0, .int 0, .int 0, .ref (q 3)])) ∧ μ (q 2) = some (.inl (uC U 2, 60, .inl (fun _ => 0))) ∧ μ (q 3) = some (.inl (uC U 0, 4, .inl (fun _ => 0))) ∧
  (∃ f : Nat → Option Nat, μ (q 4) = some (.inl (uC U 5, 6, .inr (.inr (.inr (.inr f))))) ∧ ∀ i, i < 6 → f i = some (shs (3 + i) 0)) ∧ (∃ f : Nat → Option Nat, μ (q 5) = some (.inl (uC U 5, 2, .inr (.inr (.inr (.inr f))))) ∧ ∀ i, i < 2 → f i = some (shs (9 + i) 0)) ∧ μ (q 6) = some (.inl (uC U 1, 2, .inl (fun _ => 0)))
theorem ONew.at {U : xU} {μ0 μ : xH} {a : Nat} {e0 : va_E} (h : ONew U μ0 μ a) (h0 : μ0 a = some e0) : ∃ (shs : Nat → Nat → Nat) (q : Nat → Nat), q 0 = a ∧ OC U μ shs q := by
  obtain ⟨β, shs, q1, q2, q3, q4, q5, q6, j0, j1, j2, j3, j4, j5, j6, j7, j8, j9, j10, hG, hB⟩ := h
  have e0 := (hB.1 0 j0 rfl).2
  have e1 := (hB.1 1 j1 rfl).2
  have e2 := (hB.1 2 j2 rfl).2
  have e3 := (hB.1 3 j3 rfl).2
  have e4 := (hB.1 4 j4 rfl).2
  have e5 := (hB.1 5 j5 rfl).2
  have e6 := (hB.1 6 j6 rfl).2
  have e7 := (hB.1 7 j7 rfl).2
  have e8 := (hB.1 8 j8 rfl).2
  have e9 := (hB.1 9 j9 rfl).2
  have e10 := (hB.1 10 j10 rfl).2
  subst e0 e1 e2 e3 e4 e5 e6 e7 e8 e9 e10
  obtain ⟨q, hqe⟩ : ∃ q : Nat → Nat, q = fun i => match i with | 0 => a | 1 => q1 | 2 => q2 | 3 => q3 | 4 => q4 | 5 => q5 | _ => q6 := ⟨_, rfl⟩
  have hq : ∀ i, i < 7 → [a, q1, q2, q3, q4, q5, q6][i]? = some (q i) := by
    intro i hi
    subst hqe
    rcases (show i = 0 ∨ i = 1 ∨ i = 2 ∨ i = 3 ∨ i = 4 ∨ i = 5 ∨ i = 6 by omega) with rfl | rfl | rfl | rfl | rfl | rfl | rfl <;> rfl
  have hv := hG.2.1
  have hnA : ∀ r n, r < 11 → n < 23 → shs r n ∉ [a, q1, q2, q3, q4, q5, q6] := fun r n hr hn => hB.nA hG rfl h0 hr hn
  have hJ : ∀ r, r < 11 → JRep U β (shs r) zI := fun r hr => (hB.1 r _ (List.getElem?_eq_getElem (by simpa using hr))).1
  refine ⟨shs, q, by subst hqe; rfl, hB.2.1, fun r hr => ?_, fun i j hi hj e => hG.2.2.1 i j (q i) (hq i hi) (by rw [e]; exact hq j hj), fun r n i hr hn hi e => hnA r n hr hn (by rw [e]; exact List.mem_of_getElem? (hq i hi)), ?_, ?_, ?_, ?_, ?_, ?_, ?_⟩
  · obtain ⟨b1, b2, b3⟩ := hJ r hr
    refine ⟨b1, b2, fun n hn => ?_⟩
    obtain ⟨x, g1, g2⟩ := b3 n hn
    exact ⟨x, by rw [hG.2.2.2.1 _ (hnA r n hr hn)]; exact g1, g2⟩
  · subst hqe; exact hv 0 _ _ rfl rfl
  · subst hqe; exact hv 1 _ _ rfl rfl
  · subst hqe; exact hv 2 _ _ rfl rfl
  · subst hqe; exact hv 3 _ _ rfl rfl
  · subst hqe
    refine ⟨_, hv 4 _ _ rfl rfl, fun i hi => ?_⟩
    rcases (show i = 0 ∨ i = 1 ∨ i = 2 ∨ i = 3 ∨ i = 4 ∨ i = 5 by omega) with rfl | rfl | rfl | rfl | rfl | rfl <;> rfl
  · subst hqe
    refine ⟨_, hv 5 _ _ rfl rfl, fun i hi => ?_⟩
    rcases (show i = 0 ∨ i = 1 by omega) with rfl | rfl <;> rfl
  · subst hqe; exact hv 6 _ _ rfl rfl
theorem LI.start {U : xU} {μ2 μ4 : xH} {shs : Nat → Nat → Nat} {q : Nat → Nat} {a5 B : Nat} {e5 : va_E} (h : OC U μ2 shs q) (hb1 : ∀ r n, r < 11 → n < 23 → shs r n < B) (hb2 : ∀ i, i < 7 → q i < B) (h5 : μ2 a5 = none) (hM : MNew U (xup μ2 a5 e5) μ4 a5 B) : ∃ (lab pa o ma : Nat → Nat), o 0 = q 0 ∧ ma 0 = a5 ∧ LA lab ma ∧ LI U lab pa o ma μ4 := by
  obtain ⟨ma, m0, hF, hfr, hnew⟩ := hM
  obtain ⟨s1, s2, s3, s4, v0, v1, v2, v3, ⟨f4, v4, w4⟩, ⟨f5, v5, w5⟩, v6⟩ := h
  have hns : ∀ x, x < B → (∃ e, μ2 x = some e) → ∀ n, n ≤ 15 → x ≠ ma n := by
    rintro x hx ⟨e, he⟩ n hn rfl
    have hne : ma n ≠ a5 := fun z => by rw [z, h5] at he; cases he
    by_cases h0 : n = 0
    · subst h0; exact hne m0
    · rcases hnew n (by omega) hn with z | z
      · rw [xup_n hne, he] at z; cases z
      · omega
  have hkeep : ∀ x e, x < B → μ2 x = some e → μ4 x = some e := by
    intro x e hx he
    have hne : x ≠ a5 := fun z => by rw [z, h5] at he; cases he
    rw [hfr x hx (hns x hx ⟨e, he⟩), xup_n hne]; exact he
  have hqs : ∀ i, i < 7 → ∃ e, μ2 (q i) = some e := by
    intro i hi
    rcases (show i = 0 ∨ i = 1 ∨ i = 2 ∨ i = 3 ∨ i = 4 ∨ i = 5 ∨ i = 6 by omega) with rfl | rfl | rfl | rfl | rfl | rfl | rfl
    · exact ⟨_, v0⟩
    · exact ⟨_, v1⟩
    · exact ⟨_, v2⟩
    · exact ⟨_, v3⟩
    · exact ⟨_, v4⟩
    · exact ⟨_, v5⟩
    · exact ⟨_, v6⟩
  have hss : ∀ r n, r < 11 → n < 23 → ∃ e, μ2 (shs r n) = some e := fun r n hr hn => by
    obtain ⟨x, g1, -⟩ := (s2 r hr).2.2 n hn
    exact ⟨x, g1⟩
  obtain ⟨D, hD⟩ := bnd ma 16
  obtain ⟨pa, hpa⟩ : ∃ w : Nat → Nat, w = fun i => if i = 0 then q 1 else if i = 1 then q 2 else if i = 8 then q 3 else D + B + i := ⟨_, rfl⟩
  obtain ⟨o, ho⟩ : ∃ w : Nat → Nat, w = fun i => if i = 0 then q 0 else q (3 + i) := ⟨_, rfl⟩
  have p0 : pa 0 = q 1 := by rw [hpa]; rfl
  have p1 : pa 1 = q 2 := by rw [hpa]; rfl
  have p8 : pa 8 = q 3 := by rw [hpa]; rfl
  have pd : ∀ i, i ≠ 0 → i ≠ 1 → i ≠ 8 → pa i = D + B + i := fun i h0 h1 h8 => by rw [hpa]; show (if i = 0 then _ else if i = 1 then _ else if i = 8 then _ else _) = _; rw [if_neg h0, if_neg h1, if_neg h8]
  have pc : ∀ i, i ≤ 8 → (∃ k, k < 4 ∧ 0 < k ∧ pa i = q k ∧ ((i = 0 ∧ k = 1) ∨ (i = 1 ∧ k = 2) ∨ (i = 8 ∧ k = 3))) ∨ (pa i = D + B + i ∧ i ≠ 0 ∧ i ≠ 1 ∧ i ≠ 8) := by
    intro i hi
    by_cases h0 : i = 0
    · exact Or.inl ⟨1, by decide, by decide, by rw [h0]; exact p0, Or.inl ⟨h0, rfl⟩⟩
    by_cases h1 : i = 1
    · exact Or.inl ⟨2, by decide, by decide, by rw [h1]; exact p1, Or.inr (Or.inl ⟨h1, rfl⟩)⟩
    by_cases h8 : i = 8
    · exact Or.inl ⟨3, by decide, by decide, by rw [h8]; exact p8, Or.inr (Or.inr ⟨h8, rfl⟩)⟩
    exact Or.inr ⟨pd i h0 h1 h8, h0, h1, h8⟩
  have oc : ∀ i, i < 4 → ∃ k, k < 7 ∧ o i = q k ∧ (k = 0 ∨ 4 ≤ k) ∧ ((i = 0 ∧ k = 0) ∨ (0 < i ∧ k = 3 + i)) := by
    intro i hi
    by_cases h0 : i = 0
    · exact ⟨0, by decide, by rw [ho, h0]; rfl, Or.inl rfl, Or.inl ⟨h0, rfl⟩⟩
    · exact ⟨3 + i, by omega, by rw [ho]; exact if_neg h0, Or.inr (by omega), Or.inr ⟨by omega, rfl⟩⟩
  have d1 : ∀ r n i, r < 11 → n < 23 → i ≤ 8 → shs r n ≠ pa i := by
    intro r n i hr hn hi e
    rcases pc i hi with ⟨k, hk, -, e2, -⟩ | ⟨e2, -⟩
    · exact s4 r n k hr hn (by omega) (e.trans e2)
    · have := hb1 r n hr hn
      omega
  have d2 : ∀ r n i, r < 11 → n < 23 → i < 4 → shs r n ≠ o i := by
    intro r n i hr hn hi e
    obtain ⟨k, hk, e2, -⟩ := oc i hi
    exact s4 r n k hr hn hk (e.trans e2)
  have d3 : ∀ i j, i ≤ 8 → j < 4 → pa i ≠ o j := by
    intro i j hi hj e
    obtain ⟨k, hk, e2, hk2, -⟩ := oc j hj
    rcases pc i hi with ⟨k', hk', hk0, e3, -⟩ | ⟨e3, -⟩
    · have := s3 k' k (by omega) hk (e3.symm.trans (e.trans e2))
      omega
    · have := hb2 k hk
      omega
  have m1 : ∀ r n j, r < 11 → n < 23 → j ≤ 15 → ma j ≠ shs r n := fun r n j hr hn hj e => hns _ (hb1 r n hr hn) (hss r n hr hn) j hj e.symm
  have mq : ∀ i j, i < 7 → j ≤ 15 → ma j ≠ q i := fun i j hi hj e => hns _ (hb2 i hi) (hqs i hi) j hj e.symm
  have m2 : ∀ i j, i ≤ 8 → j ≤ 15 → ma j ≠ pa i := by
    intro i j hi hj e
    rcases pc i hi with ⟨k, hk, -, e2, -⟩ | ⟨e2, -⟩
    · exact mq k j (by omega) hj (e.trans e2)
    · have := hD j (by omega)
      omega
  have m3 : ∀ i j, i < 4 → j ≤ 15 → ma j ≠ o i := by
    intro i j hi hj e
    obtain ⟨k, hk, e2, -⟩ := oc i hi
    exact mq k j hk hj (e.trans e2)
  obtain ⟨lab, hlab⟩ : ∃ w : Nat → Nat, w = fun x => @ite _ (∃ r n, r < 11 ∧ n < 23 ∧ x = shs r n) (Classical.propDecidable _) 0 (@ite _ (∃ i, i ≤ 8 ∧ x = pa i) (Classical.propDecidable _) 1 (@ite _ (∃ i, i < 4 ∧ x = o i) (Classical.propDecidable _) 2 3)) := ⟨_, rfl⟩
  have l0 : ∀ r n, r < 11 → n < 23 → lab (shs r n) = 0 := fun r n hr hn => by rw [hlab]; exact if_pos ⟨r, n, hr, hn, rfl⟩
  have l1 : ∀ i, i ≤ 8 → lab (pa i) = 1 := fun i hi => by
    rw [hlab]
    exact (if_neg (fun ⟨r, n, hr, hn, e⟩ => d1 r n i hr hn hi e.symm)).trans (if_pos ⟨i, hi, rfl⟩)
  have l2 : ∀ i, i < 4 → lab (o i) = 2 := fun i hi => by
    rw [hlab]
    exact (if_neg (fun ⟨r, n, hr, hn, e⟩ => d2 r n i hr hn hi e.symm)).trans ((if_neg (fun ⟨j, hj, e⟩ => d3 j i hj hi e.symm)).trans (if_pos ⟨i, hi, rfl⟩))
  have l3 : ∀ j, j ≤ 15 → lab (ma j) = 3 := fun j hj => by
    rw [hlab]
    exact (if_neg (fun ⟨r, n, hr, hn, e⟩ => m1 r n j hr hn hj e)).trans ((if_neg (fun ⟨i, hi, e⟩ => m2 i j hi hj e)).trans (if_neg (fun ⟨i, hi, e⟩ => m3 i j hi hj e)))
  have o0 : o 0 = q 0 := by rw [ho]; rfl
  have o1 : o 1 = q 4 := by rw [ho]; rfl
  have o2 : o 2 = q 5 := by rw [ho]; rfl
  have o3 : o 3 = q 6 := by rw [ho]; rfl
  have kq : ∀ i e, i < 7 → μ2 (q i) = some e → μ4 (q i) = some e := fun i e hi he => hkeep _ e (hb2 i hi) he
  refine ⟨lab, pa, o, ma, o0, m0, fun n hn => by rw [l3 n hn]; decide, shs, fun _ => zI, fun _ => 0, 0, fun _ => 0, mI, ⟨⟨s1, l0, l1, fun i j hi hj e => ?_, l2⟩, fun r hr => ?_, ⟨fun i j hi hj e => ?_, ?_, ?_⟩, by decide, ?_⟩, hF, SimA.start⟩
  · obtain ⟨k, hk, e2, -, c⟩ := oc i hi
    obtain ⟨k', hk', e3, -, c'⟩ := oc j hj
    have := s3 k k' hk hk' (e2.symm.trans (e.trans e3))
    omega
  · obtain ⟨b1, b2, b3⟩ := s2 r hr
    refine ⟨b1, b2, fun n hn => ?_⟩
    obtain ⟨x, g1, g2⟩ := b3 n hn
    exact ⟨x, hkeep _ _ (hb1 r n hr hn) g1, g2⟩
  · have hi : i ≤ 8 := hi
    have hj : j ≤ 8 := hj
    rcases pc i hi with ⟨k, hk, -, e2, c⟩ | ⟨e2, -, -, -⟩ <;> rcases pc j hj with ⟨k', hk', -, e3, c'⟩ | ⟨e3, -, -, -⟩
    · have := s3 k k' (by omega) (by omega) (e2.symm.trans (e.trans e3))
      omega
    · have := hb2 k (by omega)
      omega
    · have := hb2 k' (by omega)
      omega
    · omega
  · refine ⟨_, by rw [p0]; exact kq 1 _ (by decide) v1, rfl, fun k x hx => ?_⟩
    match k, hx with
    | 0, hx => cases hx; exact ⟨by rw [← p1]; rfl, fun h => nomatch h⟩
    | 1, hx => cases hx; exact ⟨rfl, fun _ => fok_0⟩
    | 2, hx => cases hx; exact ⟨rfl, fun _ => fok_0⟩
    | 3, hx => cases hx; exact ⟨rfl, fun _ => fok_0⟩
    | 4, hx => cases hx; exact ⟨rfl, fun _ => fok_0⟩
    | 5, hx => cases hx; exact ⟨rfl, fun _ => fok_0⟩
    | 6, hx => cases hx; exact ⟨rfl, fun _ => fok_0⟩
    | 7, hx => cases hx; exact ⟨by rw [← p8]; rfl, fun h => nomatch h⟩
    | k + 8, hx => simp [FP] at hx
  · intro k x hx h1
    match k, hx with
    | 0, hx => cases hx; exact ⟨_, by rw [show pa (0 + 1) = q 2 from p1]; exact kq 2 _ (by decide) v2, fun j _ => ⟨rfl, fok_0⟩⟩
    | 1, hx => cases hx; cases h1
    | 2, hx => cases hx; cases h1
    | 3, hx => cases hx; cases h1
    | 4, hx => cases hx; cases h1
    | 5, hx => cases hx; cases h1
    | 6, hx => cases hx; cases h1
    | 7, hx => cases hx; exact ⟨_, by rw [show pa (7 + 1) = q 3 from p8]; exact kq 3 _ (by decide) v3, fun j _ => ⟨rfl, fok_0⟩⟩
    | k + 8, hx => simp [FP] at hx
  · unfold OWp OW ofs
    rw [o0, o1, o2, o3, p0]
    exact ⟨kq 0 _ (by decide) v0, ⟨f4, kq 4 _ (by decide) v4, w4⟩, ⟨f5, kq 5 _ (by decide) v5, w5⟩, _, kq 6 _ (by decide) v6, fun i _ => rfl⟩
