/-! the law's view of the outer object: where it stands, what it holds, and what is kept beside it -/
def KF (Kp : Nat → Prop) (μ μ' : xH) : Prop := ∀ q, Kp q → μ' q = μ q
theorem KF.rf {Kp : Nat → Prop} {μ : xH} : KF Kp μ μ := fun _ _ => rfl
theorem KF.tr {Kp : Nat → Prop} {μ μ1 μ2 : xH} (h : KF Kp μ μ1) (h2 : KF Kp μ1 μ2) : KF Kp μ μ2 := fun q hq => (h2 q hq).trans (h q hq)
def LR (U : xU) (Kp : Nat → Prop) (μ : xH) (a : Nat) (z : xV) (un : Nat) (t s0 s1 : xV) (v0 v1 : Int32) : Prop :=
  ∃ (lab : Nat → Nat) (shs : Nat → Nat → Nat) (pa o : Nat → Nat) (rs : xR) (p : xV) (sv : Nat → Int32), o 0 = a ∧ (∀ q, Kp q → 3 ≤ lab q) ∧ ORep U lab μ shs pa o rs p un sv ∧ rs 0 = z ∧ (un ≠ 0 → rs (2 + un) = t) ∧ rs 9 = s0 ∧ rs 10 = s1 ∧ sv 0 = v0 ∧ sv 1 = v1
theorem ORep.across {U : xU} {lab : Nat → Nat} {μ μ' : xH} {shs : Nat → Nat → Nat} {pa o : Nat → Nat} {rs : xR} {p : xV} {un : Nat} {sv : Nat → Int32} (h : ORep U lab μ shs pa o rs p un sv) (hk : ∀ q, lab q < 3 → μ' q = μ q) : ORep U lab μ' shs pa o rs p un sv := by
  obtain ⟨⟨a1, a2, a3, a4, a5⟩, h1, h2, h3, h4⟩ := h
  refine ⟨⟨a1, a2, a3, a4, a5⟩, fun s hs => ?_, h2, h3, OW.same h4 (fun i hi => hk _ (by rw [a5 i hi]; decide))⟩
  obtain ⟨b1, b2, b3⟩ := h1 s hs
  refine ⟨b1, b2, fun n hn => ?_⟩
  obtain ⟨x, g1, g2⟩ := b3 n hn
  exact ⟨x, by rw [hk _ (by rw [a2 s n hs hn]; decide)]; exact g1, g2⟩
section XLR
variable {l : Launch} {U : xU} {Kp : Nat → Prop} {μ μ' : xH} {a : Nat} {z : xV} {un : Nat} {t s0 s1 : xV} {v0 v1 : Int32}
theorem LR.g0 (h : LR U Kp μ a z un t s0 s1 v0 v1) : ∃ fs : List Value, μ a = some (.inr (4, fs)) := by
  obtain ⟨lab, shs, pa, o, rs, p, sv, rfl, hk, hO, rfl, ht, rfl, rfl, rfl, rfl⟩ := h
  exact ⟨_, (OR.rf hO).g0⟩
theorem LR.un6 (h : LR U Kp μ a z un t s0 s1 v0 v1) : un ≤ 6 := by
  obtain ⟨lab, shs, pa, o, rs, p, sv, rfl, hk, hO, rfl, ht, rfl, rfl, rfl, rfl⟩ := h
  exact (OR.rf hO).un6
theorem LR.mono {Kp' : Nat → Prop} (h : LR U Kp μ a z un t s0 s1 v0 v1) (e : ∀ q, Kp' q → Kp q) : LR U Kp' μ a z un t s0 s1 v0 v1 := by
  obtain ⟨lab, shs, pa, o, rs, p, sv, h0, hk, hr⟩ := h
  exact ⟨lab, shs, pa, o, rs, p, sv, h0, fun q hq => hk q (e q hq), hr⟩
theorem LR.put (h : LR U Kp μ a z un t s0 s1 v0 v1) {b : Nat} {e : va_E} (hb : Kp b) : LR U Kp (xup μ b e) a z un t s0 s1 v0 v1 := by
  obtain ⟨lab, shs, pa, o, rs, p, sv, h0, hk, hO, hr⟩ := h
  refine ⟨lab, shs, pa, o, rs, p, sv, h0, hk, hO.across (fun q hq => xup_n (fun x => ?_)), hr⟩
  have := hk b hb
  rw [x] at hq
  omega
theorem LR.new (h : LR U Kp μ a z un t s0 s1 v0 v1) {b : Nat} {e : va_E} (hb : μ b = none) : LR U (fun q => Kp q ∨ q = b) (xup μ b e) a z un t s0 s1 v0 v1 := by
  obtain ⟨lab, shs, pa, o, rs, p, sv, h0, hk, ⟨⟨a1, a2, a3, a4, a5⟩, h1, h2, h3, h4⟩, hr⟩ := h
  have d1 : ∀ s n, s < 11 → n < 23 → shs s n ≠ b := fun s n hs hn x => by
    obtain ⟨e, g1, -⟩ := (h1 s hs).2.2 n hn
    rw [x, hb] at g1
    cases g1
  have d2 : ∀ i, i < 4 → o i ≠ b := by
    obtain ⟨w0, ⟨f1, w1, -⟩, ⟨f2, w2, -⟩, f3, w3, -⟩ := h4
    intro i hi x
    rcases (show i = 0 ∨ i = 1 ∨ i = 2 ∨ i = 3 by omega) with rfl | rfl | rfl | rfl
    · rw [x, hb] at w0; cases w0
    · rw [x, hb] at w1; cases w1
    · rw [x, hb] at w2; cases w2
    · rw [x, hb] at w3; cases w3
  have hO' : ORep U (nup lab b 3) μ shs pa o rs p un sv := ⟨⟨a1, fun s n hs hn => by rw [nup_n (d1 s n hs hn)]; exact a2 s n hs hn, a3, a4, fun i hi => by rw [nup_n (d2 i hi)]; exact a5 i hi⟩, h1, h2, h3, h4⟩
  refine ⟨nup lab b 3, shs, pa, o, rs, p, sv, h0, fun q hq => ?_, hO'.across (fun q hq => xup_n (fun x => ?_)), hr⟩
  · by_cases x : q = b
    · rw [x, nup_s]; exact Nat.le_refl _
    · rw [nup_n x]; exact hk q (hq.resolve_right x)
  · rw [x, nup_s] at hq
    omega
theorem LR.of {lab : Nat → Nat} {shs : Nat → Nat → Nat} {pa o : Nat → Nat} {rs : xR} {p : xV} {sv : Nat → Int32} (hk : ∀ q, Kp q → 3 ≤ lab q) {q : Int32 × xV} {un' : Nat} (hO : OR U lab μ μ' shs pa o (dRs rs un q) p (dUn un q) sv) (hu : un ≤ 6) (ht : un ≠ 0 → rs (2 + un) = t) : LR U Kp μ' (o 0) q.2 (dUn un q) (if isErr q.1 = true then t else rs 0) (rs 9) (rs 10) (sv 0) (sv 1) := by
  refine ⟨lab, shs, pa, o, dRs rs un q, p, sv, rfl, hk, hO.1, ?_, ?_, ?_, ?_, rfl, rfl⟩
  · unfold dRs
    split
    · exact rup_s
    · show rup _ 0 q.2 (rAll un 0) = _
      have e : rAll un 0 = 0 := by
        unfold rAll rDrop rRec nup
        dsimp only
        repeat' split
        all_goals omega
      rw [e, rup_s]
  · unfold dRs dUn
    split
    · intro h0
      rw [rup_n (by omega), rup_n (by omega)]
      exact ht h0
    · intro _
      show rup _ 0 q.2 (rAll un (2 + oUn un)) = _
      have e : rAll un (2 + oUn un) = 2 := by
        unfold rAll oUn rDrop rRec nup
        dsimp only
        repeat' split
        all_goals omega
      rw [e, rup_n (by decide), rup_s]
  · unfold dRs
    split
    · rw [rup_n (by decide), rup_n (by decide)]
    · show rup _ 0 q.2 (rAll un 9) = _
      have e : rAll un 9 = 9 := by
        unfold rAll rDrop rRec nup
        dsimp only
        repeat' split
        all_goals omega
      rw [e, rup_n (by decide), rup_n (by decide)]
  · unfold dRs
    split
    · rw [rup_n (by decide), rup_n (by decide)]
    · show rup _ 0 q.2 (rAll un 10) = _
      have e : rAll un 10 = 10 := by
        unfold rAll rDrop rRec nup
        dsimp only
        repeat' split
        all_goals omega
      rw [e, rup_n (by decide), rup_n (by decide)]
theorem l_set (h : LR U Kp μ a z un t s0 s1 v0 v1) (s k : Int32) : Ct l U yX4_set cX4_set 3 (some .int) ({ frames := 4, cells := 0, slots := 0, locals := 89 } : Room) [.ref a, .int s, .int k] μ (fun v μ' => v = some (.int (gSet z s k).1) ∧ LR U Kp μ' a (gSet z s k).2 (dUn un (gSet z s k)) (if isErr (gSet z s k).1 = true then t else z) s0 s1 v0 v1 ∧ KF Kp μ μ') := by
  obtain ⟨lab, shs, pa, o, rs, p, sv, rfl, hk, hO, rfl, ht, rfl, rfl, rfl, rfl⟩ := h
  exact (c_X4_set l U lab μ shs pa o rs p un sv hO s k).mono (fun v μ' hq => by obtain ⟨e, shs', hO'⟩ := hq; exact ⟨e, LR.of (un' := 0) hk hO' (OR.rf hO).un6 ht, fun q hq => hO'.2 q (hk q hq)⟩)
theorem l_arrive (h : LR U Kp μ a z un t s0 s1 v0 v1) (x b c d : Int32) : Ct l U yX4_arrive cX4_arrive 5 (some .int) ({ frames := 4, cells := 0, slots := 0, locals := 89 } : Room) [.ref a, .int x, .int b, .int c, .int d] μ (fun v μ' => v = some (.int (gArrive z x b c d).1) ∧ LR U Kp μ' a (gArrive z x b c d).2 (dUn un (gArrive z x b c d)) (if isErr (gArrive z x b c d).1 = true then t else z) s0 s1 v0 v1 ∧ KF Kp μ μ') := by
  obtain ⟨lab, shs, pa, o, rs, p, sv, rfl, hk, hO, rfl, ht, rfl, rfl, rfl, rfl⟩ := h
  exact (c_X4_arrive l U lab μ shs pa o rs p un sv hO x b c d).mono (fun v μ' hq => by obtain ⟨e, shs', hO'⟩ := hq; exact ⟨e, LR.of (un' := 0) hk hO' (OR.rf hO).un6 ht, fun q hq => hO'.2 q (hk q hq)⟩)
theorem l_berth (h : LR U Kp μ a z un t s0 s1 v0 v1) : Ct l U yX4_berth cX4_berth 1 (some .int) ({ frames := 4, cells := 0, slots := 0, locals := 89 } : Room) [.ref a] μ (fun v μ' => v = some (.int (gBerth z).1) ∧ LR U Kp μ' a (gBerth z).2 (dUn un (gBerth z)) (if isErr (gBerth z).1 = true then t else z) s0 s1 v0 v1 ∧ KF Kp μ μ') := by
  obtain ⟨lab, shs, pa, o, rs, p, sv, rfl, hk, hO, rfl, ht, rfl, rfl, rfl, rfl⟩ := h
  exact (c_X4_berth l U lab μ shs pa o rs p un sv hO).mono (fun v μ' hq => by obtain ⟨e, shs', hO'⟩ := hq; exact ⟨e, LR.of (un' := 0) hk hO' (OR.rf hO).un6 ht, fun q hq => hO'.2 q (hk q hq)⟩)
theorem l_leave (h : LR U Kp μ a z un t s0 s1 v0 v1) : Ct l U yX4_leave cX4_leave 1 (some .int) ({ frames := 4, cells := 0, slots := 0, locals := 89 } : Room) [.ref a] μ (fun v μ' => v = some (.int (gLeave z).1) ∧ LR U Kp μ' a (gLeave z).2 (dUn un (gLeave z)) (if isErr (gLeave z).1 = true then t else z) s0 s1 v0 v1 ∧ KF Kp μ μ') := by
  obtain ⟨lab, shs, pa, o, rs, p, sv, rfl, hk, hO, rfl, ht, rfl, rfl, rfl, rfl⟩ := h
  exact (c_X4_leave l U lab μ shs pa o rs p un sv hO).mono (fun v μ' hq => by obtain ⟨e, shs', hO'⟩ := hq; exact ⟨e, LR.of (un' := 0) hk hO' (OR.rf hO).un6 ht, fun q hq => hO'.2 q (hk q hq)⟩)
theorem l_reach (h : LR U Kp μ a z un t s0 s1 v0 v1) (g k : Int32) : Ct l U yX4_reach cX4_reach 3 (some .int) ({ frames := 4, cells := 0, slots := 0, locals := 89 } : Room) [.ref a, .int g, .int k] μ (fun v μ' => v = some (.int (gReach z g k).1) ∧ LR U Kp μ' a (gReach z g k).2 (dUn un (gReach z g k)) (if isErr (gReach z g k).1 = true then t else z) s0 s1 v0 v1 ∧ KF Kp μ μ') := by
  obtain ⟨lab, shs, pa, o, rs, p, sv, rfl, hk, hO, rfl, ht, rfl, rfl, rfl, rfl⟩ := h
  exact (c_X4_reach l U lab μ shs pa o rs p un sv hO g k).mono (fun v μ' hq => by obtain ⟨e, shs', hO'⟩ := hq; exact ⟨e, LR.of (un' := 0) hk hO' (OR.rf hO).un6 ht, fun q hq => hO'.2 q (hk q hq)⟩)
theorem l_connect (h : LR U Kp μ a z un t s0 s1 v0 v1) (g k : Int32) : Ct l U yX4_connect cX4_connect 3 (some .int) ({ frames := 4, cells := 0, slots := 0, locals := 89 } : Room) [.ref a, .int g, .int k] μ (fun v μ' => v = some (.int (gConnect z g k).1) ∧ LR U Kp μ' a (gConnect z g k).2 (dUn un (gConnect z g k)) (if isErr (gConnect z g k).1 = true then t else z) s0 s1 v0 v1 ∧ KF Kp μ μ') := by
  obtain ⟨lab, shs, pa, o, rs, p, sv, rfl, hk, hO, rfl, ht, rfl, rfl, rfl, rfl⟩ := h
  exact (c_X4_connect l U lab μ shs pa o rs p un sv hO g k).mono (fun v μ' hq => by obtain ⟨e, shs', hO'⟩ := hq; exact ⟨e, LR.of (un' := 0) hk hO' (OR.rf hO).un6 ht, fun q hq => hO'.2 q (hk q hq)⟩)
theorem l_disconnect (h : LR U Kp μ a z un t s0 s1 v0 v1) (g : Int32) : Ct l U yX4_disconnect cX4_disconnect 2 (some .int) ({ frames := 4, cells := 0, slots := 0, locals := 89 } : Room) [.ref a, .int g] μ (fun v μ' => v = some (.int (gDisconnect z g).1) ∧ LR U Kp μ' a (gDisconnect z g).2 (dUn un (gDisconnect z g)) (if isErr (gDisconnect z g).1 = true then t else z) s0 s1 v0 v1 ∧ KF Kp μ μ') := by
  obtain ⟨lab, shs, pa, o, rs, p, sv, rfl, hk, hO, rfl, ht, rfl, rfl, rfl, rfl⟩ := h
  exact (c_X4_disconnect l U lab μ shs pa o rs p un sv hO g).mono (fun v μ' hq => by obtain ⟨e, shs', hO'⟩ := hq; exact ⟨e, LR.of (un' := 0) hk hO' (OR.rf hO).un6 ht, fun q hq => hO'.2 q (hk q hq)⟩)
theorem l_flush (h : LR U Kp μ a z un t s0 s1 v0 v1) (g : Int32) : Ct l U yX4_flush cX4_flush 2 (some .int) ({ frames := 4, cells := 0, slots := 0, locals := 89 } : Room) [.ref a, .int g] μ (fun v μ' => v = some (.int (gFlush z g).1) ∧ LR U Kp μ' a (gFlush z g).2 (dUn un (gFlush z g)) (if isErr (gFlush z g).1 = true then t else z) s0 s1 v0 v1 ∧ KF Kp μ μ') := by
  obtain ⟨lab, shs, pa, o, rs, p, sv, rfl, hk, hO, rfl, ht, rfl, rfl, rfl, rfl⟩ := h
  exact (c_X4_flush l U lab μ shs pa o rs p un sv hO g).mono (fun v μ' hq => by obtain ⟨e, shs', hO'⟩ := hq; exact ⟨e, LR.of (un' := 0) hk hO' (OR.rf hO).un6 ht, fun q hq => hO'.2 q (hk q hq)⟩)
theorem l_mend (h : LR U Kp μ a z un t s0 s1 v0 v1) (g : Int32) : Ct l U yX4_mend cX4_mend 2 (some .int) ({ frames := 4, cells := 0, slots := 0, locals := 89 } : Room) [.ref a, .int g] μ (fun v μ' => v = some (.int (gMend z g).1) ∧ LR U Kp μ' a (gMend z g).2 (dUn un (gMend z g)) (if isErr (gMend z g).1 = true then t else z) s0 s1 v0 v1 ∧ KF Kp μ μ') := by
  obtain ⟨lab, shs, pa, o, rs, p, sv, rfl, hk, hO, rfl, ht, rfl, rfl, rfl, rfl⟩ := h
  exact (c_X4_mend l U lab μ shs pa o rs p un sv hO g).mono (fun v μ' hq => by obtain ⟨e, shs', hO'⟩ := hq; exact ⟨e, LR.of (un' := 0) hk hO' (OR.rf hO).un6 ht, fun q hq => hO'.2 q (hk q hq)⟩)
theorem l_boom (h : LR U Kp μ a z un t s0 s1 v0 v1) (b : Int32) (hb : xz b) : Ct l U yX4_boom cX4_boom 2 (some .int) ({ frames := 4, cells := 0, slots := 0, locals := 89 } : Room) [.ref a, .int b] μ (fun v μ' => v = some (.int (gBoom z b).1) ∧ LR U Kp μ' a (gBoom z b).2 (dUn un (gBoom z b)) (if isErr (gBoom z b).1 = true then t else z) s0 s1 v0 v1 ∧ KF Kp μ μ') := by
  obtain ⟨lab, shs, pa, o, rs, p, sv, rfl, hk, hO, rfl, ht, rfl, rfl, rfl, rfl⟩ := h
  exact (c_X4_boom l U lab μ shs pa o rs p un sv hO b hb).mono (fun v μ' hq => by obtain ⟨e, shs', hO'⟩ := hq; exact ⟨e, LR.of (un' := 0) hk hO' (OR.rf hO).un6 ht, fun q hq => hO'.2 q (hk q hq)⟩)
theorem l_draw (h : LR U Kp μ a z un t s0 s1 v0 v1) (g u : Int32) : Ct l U yX4_draw cX4_draw 3 (some .int) ({ frames := 4, cells := 0, slots := 0, locals := 89 } : Room) [.ref a, .int g, .int u] μ (fun v μ' => v = some (.int (gDraw z g u).1) ∧ LR U Kp μ' a (gDraw z g u).2 (dUn un (gDraw z g u)) (if isErr (gDraw z g u).1 = true then t else z) s0 s1 v0 v1 ∧ KF Kp μ μ') := by
  obtain ⟨lab, shs, pa, o, rs, p, sv, rfl, hk, hO, rfl, ht, rfl, rfl, rfl, rfl⟩ := h
  exact (c_X4_draw l U lab μ shs pa o rs p un sv hO g u).mono (fun v μ' hq => by obtain ⟨e, shs', hO'⟩ := hq; exact ⟨e, LR.of (un' := 0) hk hO' (OR.rf hO).un6 ht, fun q hq => hO'.2 q (hk q hq)⟩)
theorem l_pass (h : LR U Kp μ a z un t s0 s1 v0 v1) (n : Int32) : Ct l U yX4_pass cX4_pass 2 (some .int) ({ frames := 6, cells := 0, slots := 0, locals := 132 } : Room) [.ref a, .int n] μ (fun v μ' => v = some (.int (gPass z n).1) ∧ LR U Kp μ' a (gPass z n).2 (dUn un (gPass z n)) (if isErr (gPass z n).1 = true then t else z) s0 s1 v0 v1 ∧ KF Kp μ μ') := by
  obtain ⟨lab, shs, pa, o, rs, p, sv, rfl, hk, hO, rfl, ht, rfl, rfl, rfl, rfl⟩ := h
  exact (c_X4_pass l U lab μ shs pa o rs p un sv hO n).mono (fun v μ' hq => by obtain ⟨e, shs', hO'⟩ := hq; exact ⟨e, LR.of (un' := 0) hk hO' (OR.rf hO).un6 ht, fun q hq => hO'.2 q (hk q hq)⟩)
theorem l_tanker (h : LR U Kp μ a z un t s0 s1 v0 v1) (q w : Int32) : CtF l U yX4_tanker cX4_tanker 3 (some .int) ({ frames := 4, cells := 0, slots := 0, locals := 88 } : Room) [.ref a, .int q, .int w] μ (cTanker z q w) := by
  obtain ⟨lab, shs, pa, o, rs, p, sv, rfl, hk, hO, rfl, ht, rfl, rfl, rfl, rfl⟩ := h
  exact c_X4_tanker l U lab μ shs pa o rs p un sv hO q w
theorem l_hose (h : LR U Kp μ a z un t s0 s1 v0 v1) (g w : Int32) : CtF l U yX4_hose cX4_hose 3 (some .int) ({ frames := 2, cells := 0, slots := 0, locals := 43 } : Room) [.ref a, .int g, .int w] μ (cHose z g w) := by
  obtain ⟨lab, shs, pa, o, rs, p, sv, rfl, hk, hO, rfl, ht, rfl, rfl, rfl, rfl⟩ := h
  exact c_X4_hose l U lab μ shs pa o rs p un sv hO g w
theorem l_grade (h : LR U Kp μ a z un t s0 s1 v0 v1) (g w : Int32) : CtF l U yX4_grade cX4_grade 3 (some .int) ({ frames := 3, cells := 0, slots := 0, locals := 66 } : Room) [.ref a, .int g, .int w] μ (cGrade z g w) := by
  obtain ⟨lab, shs, pa, o, rs, p, sv, rfl, hk, hO, rfl, ht, rfl, rfl, rfl, rfl⟩ := h
  exact c_X4_grade l U lab μ shs pa o rs p un sv hO g w
theorem l_tide (h : LR U Kp μ a z un t s0 s1 v0 v1) (g : Int32) : CtF l U yX4_tide cX4_tide 2 (some .int) ({ frames := 2, cells := 0, slots := 0, locals := 43 } : Room) [.ref a, .int g] μ (if g < 0 then -100002 else cTide z g) := by
  obtain ⟨lab, shs, pa, o, rs, p, sv, rfl, hk, hO, rfl, ht, rfl, rfl, rfl, rfl⟩ := h
  exact c_X4_tide l U lab μ shs pa o rs p un sv hO g
theorem l_untilFloats (h : LR U Kp μ a z un t s0 s1 v0 v1) : CtF l U yX4_untilFloats cX4_untilFloats 3 (some .int) ({ frames := 3, cells := 0, slots := 0, locals := 65 } : Room) [.ref a] μ (cUnt z) := by
  obtain ⟨lab, shs, pa, o, rs, p, sv, rfl, hk, hO, rfl, ht, rfl, rfl, rfl, rfl⟩ := h
  exact c_X4_untilFloats l U lab μ shs pa o rs p un sv hO
theorem l_count (h : LR U Kp μ a z un t s0 s1 v0 v1) (w : Int32) (h8 : ¬ w = 18) (h9 : ¬ w = 19) : CtF l U yX4_count cX4_count 2 (some .int) ({ frames := 4, cells := 0, slots := 0, locals := 83 } : Room) [.ref a, .int w] μ (cNumber z w) := by
  obtain ⟨lab, shs, pa, o, rs, p, sv, rfl, hk, hO, rfl, ht, rfl, rfl, rfl, rfl⟩ := h
  have := c_X4_count l U lab μ shs pa o rs p un sv hO w h8
  unfold oCount at this
  rw [if_neg h9] at this
  exact this
theorem l_safeFor (h : LR U Kp μ a z un t s0 s1 v0 v1) (g : Int32) : Ct l U yX4_safeFor cX4_safeFor 3 (some .int) ({ frames := 5, cells := 0, slots := 0, locals := 109 } : Room) [.ref a, .int g] μ (fun v μ' => v = some (.int (cSaf z g)) ∧ LR U Kp μ' a z un t s0 s1 v0 v1 ∧ KF Kp μ μ') := by
  obtain ⟨lab, shs, pa, o, rs, p, sv, rfl, hk, hO, rfl, ht, rfl, rfl, rfl, rfl⟩ := h
  exact (c_X4_safeFor l U lab μ shs pa o rs p un sv hO g).mono (fun v μ' hq => by obtain ⟨e, rs', hr, hO'⟩ := hq; exact ⟨e, ⟨lab, shs, pa, o, rs', p, sv, rfl, hk, hO'.1, hr 0 (by decide), fun h0 => (hr _ (by omega)).trans (ht h0), hr 9 (by decide), hr 10 (by decide), rfl, rfl⟩, fun q hq => hO'.2 q (hk q hq)⟩)
theorem l_untilEmpty (h : LR U Kp μ a z un t s0 s1 v0 v1) : Ct l U yX4_untilEmpty cX4_untilEmpty 2 (some .int) ({ frames := 5, cells := 0, slots := 0, locals := 109 } : Room) [.ref a] μ (fun v μ' => v = some (.int (cEmp z)) ∧ LR U Kp μ' a z un t s0 s1 v0 v1 ∧ KF Kp μ μ') := by
  obtain ⟨lab, shs, pa, o, rs, p, sv, rfl, hk, hO, rfl, ht, rfl, rfl, rfl, rfl⟩ := h
  exact (c_X4_untilEmpty l U lab μ shs pa o rs p un sv hO).mono (fun v μ' hq => by obtain ⟨e, rs', hr, hO'⟩ := hq; exact ⟨e, ⟨lab, shs, pa, o, rs', p, sv, rfl, hk, hO'.1, hr 0 (by decide), fun h0 => (hr _ (by omega)).trans (ht h0), hr 9 (by decide), hr 10 (by decide), rfl, rfl⟩, fun q hq => hO'.2 q (hk q hq)⟩)
theorem l_ifPassed (h : LR U Kp μ a z un t s0 s1 v0 v1) (n w : Int32) : Ct l U yX4_ifPassed cX4_ifPassed 5 (some .int) ({ frames := 5, cells := 0, slots := 0, locals := 109 } : Room) [.ref a, .int n, .int w] μ (fun v μ' => v = some (.int (cIfP z n w)) ∧ LR U Kp μ' a z un t s0 s1 v0 v1 ∧ KF Kp μ μ') := by
  obtain ⟨lab, shs, pa, o, rs, p, sv, rfl, hk, hO, rfl, ht, rfl, rfl, rfl, rfl⟩ := h
  exact (c_X4_ifPassed l U lab μ shs pa o rs p un sv hO n w).mono (fun v μ' hq => by obtain ⟨e, rs', hr, hO'⟩ := hq; exact ⟨e, ⟨lab, shs, pa, o, rs', p, sv, rfl, hk, hO'.1, hr 0 (by decide), fun h0 => (hr _ (by omega)).trans (ht h0), hr 9 (by decide), hr 10 (by decide), rfl, rfl⟩, fun q hq => hO'.2 q (hk q hq)⟩)
theorem l_leastReach (h : LR U Kp μ a z un t s0 s1 v0 v1) (g : Int32) : Ct l U yX4_leastReach cX4_leastReach 4 (some .int) ({ frames := 5, cells := 0, slots := 0, locals := 109 } : Room) [.ref a, .int g] μ (fun v μ' => v = some (.int (cLea z g)) ∧ LR U Kp μ' a z un t s0 s1 v0 v1 ∧ KF Kp μ μ') := by
  obtain ⟨lab, shs, pa, o, rs, p, sv, rfl, hk, hO, rfl, ht, rfl, rfl, rfl, rfl⟩ := h
  exact (c_X4_leastReach l U lab μ shs pa o rs p un sv hO g).mono (fun v μ' hq => by obtain ⟨e, rs', hr, hO'⟩ := hq; exact ⟨e, ⟨lab, shs, pa, o, rs', p, sv, rfl, hk, hO'.1, hr 0 (by decide), fun h0 => (hr _ (by omega)).trans (ht h0), hr 9 (by decide), hr 10 (by decide), rfl, rfl⟩, fun q hq => hO'.2 q (hk q hq)⟩)
theorem l_undo (h : LR U Kp μ a z un t s0 s1 v0 v1) (hu : ¬ un = 0) : Ct l U yX4_undo cX4_undo 1 (some .int) ({ frames := 3, cells := 0, slots := 0, locals := 69 } : Room) [.ref a] μ (fun v μ' => v = some (.int (nI (un - 1))) ∧ (∃ t', LR U Kp μ' a t (un - 1) t' s0 s1 v0 v1) ∧ KF Kp μ μ') := by
  obtain ⟨lab, shs, pa, o, rs, p, sv, rfl, hk, hO, rfl, ht, rfl, rfl, rfl, rfl⟩ := h
  refine (c_X4_undo l U lab μ shs pa o rs p un sv hO).mono (fun v μ' hq => ?_)
  obtain ⟨e, hO'⟩ := hq
  rw [if_neg hu] at e hO'
  refine ⟨e, ⟨_, lab, shs, pa, o, _, p, sv, rfl, hk, hO'.1, ?_, fun _ => rfl, rfl, rfl, rfl, rfl⟩, fun q hq => hO'.2 q (hk q hq)⟩
  rw [rup_s, show 3 + (un - 1) = 2 + un by omega]
  exact ht hu
theorem l_undo0 (h : LR U Kp μ a z un t s0 s1 v0 v1) (hu : un = 0) : Ct l U yX4_undo cX4_undo 1 (some .int) ({ frames := 3, cells := 0, slots := 0, locals := 69 } : Room) [.ref a] μ (fun v μ' => v = some (.int (-100005)) ∧ LR U Kp μ' a z un t s0 s1 v0 v1 ∧ KF Kp μ μ') := by
  obtain ⟨lab, shs, pa, o, rs, p, sv, rfl, hk, hO, rfl, ht, rfl, rfl, rfl, rfl⟩ := h
  refine (c_X4_undo l U lab μ shs pa o rs p un sv hO).mono (fun v μ' hq => ?_)
  obtain ⟨e, hO'⟩ := hq
  rw [if_pos hu] at e hO'
  rw [show un - 1 = un by omega] at hO'
  exact ⟨e, ⟨lab, shs, pa, o, _, p, sv, rfl, hk, hO'.1, rfl, ht, rfl, rfl, rfl, rfl⟩, fun q hq => hO'.2 q (hk q hq)⟩
theorem l_save0 (h : LR U Kp μ a z un t s0 s1 v0 v1) : Ct l U yX4_save cX4_save 2 (some .int) ({ frames := 3, cells := 0, slots := 0, locals := 69 } : Room) [.ref a, .int 0] μ (fun v μ' => v = some (.int (z 6)) ∧ LR U Kp μ' a z un t z s1 1 v1 ∧ KF Kp μ μ') := by
  obtain ⟨lab, shs, pa, o, rs, p, sv, rfl, hk, hO, rfl, ht, rfl, rfl, rfl, rfl⟩ := h
  refine (c_X4_save l U lab μ shs pa o rs p un sv hO 0).mono (fun v μ' hq => ?_)
  obtain ⟨e, hO'⟩ := hq
  have hS : ¬ isS 0 = false := by decide
  rw [if_neg hS] at e
  rw [if_neg hS, if_neg hS, show 9 + tn 0 = 9 from rfl, show tn 0 = 0 from rfl] at hO'
  refine ⟨e, ⟨lab, shs, pa, o, _, p, _, rfl, hk, hO'.1, rup_n (by decide), fun h0 => ?_, rup_s, rup_n (by decide), upd_s, upd_n (by decide)⟩, fun q hq => hO'.2 q (hk q hq)⟩
  have := (OR.rf hO).un6
  rw [rup_n (by omega)]
  exact ht h0
theorem l_restore0 (h : LR U Kp μ a z un t s0 s1 v0 v1) (hv : ¬ v0 = 0) : Ct l U yX4_restore cX4_restore 2 (some .int) ({ frames := 4, cells := 0, slots := 0, locals := 89 } : Room) [.ref a, .int 0] μ (fun v μ' => v = some (.int (s0 6)) ∧ (∃ un' t', LR U Kp μ' a s0 un' t' s0 s1 v0 v1) ∧ KF Kp μ μ') := by
  obtain ⟨lab, shs, pa, o, rs, p, sv, rfl, hk, hO, rfl, ht, rfl, rfl, rfl, rfl⟩ := h
  refine (c_X4_restore l U lab μ shs pa o rs p un sv hO 0).mono (fun v μ' hq => ?_)
  obtain ⟨e, shs', hO'⟩ := hq
  have hS : ¬ isS 0 = false := by decide
  rw [if_neg hS, show tn 0 = 0 from rfl, if_neg hv] at e
  rw [if_neg hS, if_neg hS, show tn 0 = 0 from rfl, if_neg hv, if_neg hv] at hO'
  exact ⟨e, ⟨_, _, LR.of (un' := 0) hk hO' (OR.rf hO).un6 ht⟩, fun q hq => hO'.2 q (hk q hq)⟩
theorem l_save1 (h : LR U Kp μ a z un t s0 s1 v0 v1) : Ct l U yX4_save cX4_save 2 (some .int) ({ frames := 3, cells := 0, slots := 0, locals := 69 } : Room) [.ref a, .int 1] μ (fun v μ' => v = some (.int (z 6)) ∧ LR U Kp μ' a z un t s0 z v0 1 ∧ KF Kp μ μ') := by
  obtain ⟨lab, shs, pa, o, rs, p, sv, rfl, hk, hO, rfl, ht, rfl, rfl, rfl, rfl⟩ := h
  refine (c_X4_save l U lab μ shs pa o rs p un sv hO 1).mono (fun v μ' hq => ?_)
  obtain ⟨e, hO'⟩ := hq
  have hS : ¬ isS 1 = false := by decide
  rw [if_neg hS] at e
  rw [if_neg hS, if_neg hS, show 9 + tn 1 = 10 from rfl, show tn 1 = 1 from rfl] at hO'
  refine ⟨e, ⟨lab, shs, pa, o, _, p, _, rfl, hk, hO'.1, rup_n (by decide), fun h0 => ?_, rup_n (by decide), rup_s, upd_n (by decide), upd_s⟩, fun q hq => hO'.2 q (hk q hq)⟩
  have := (OR.rf hO).un6
  rw [rup_n (by omega)]
  exact ht h0
theorem l_restore1 (h : LR U Kp μ a z un t s0 s1 v0 v1) (hv : ¬ v1 = 0) : Ct l U yX4_restore cX4_restore 2 (some .int) ({ frames := 4, cells := 0, slots := 0, locals := 89 } : Room) [.ref a, .int 1] μ (fun v μ' => v = some (.int (s1 6)) ∧ (∃ un' t', LR U Kp μ' a s1 un' t' s0 s1 v0 v1) ∧ KF Kp μ μ') := by
  obtain ⟨lab, shs, pa, o, rs, p, sv, rfl, hk, hO, rfl, ht, rfl, rfl, rfl, rfl⟩ := h
  refine (c_X4_restore l U lab μ shs pa o rs p un sv hO 1).mono (fun v μ' hq => ?_)
  obtain ⟨e, shs', hO'⟩ := hq
  have hS : ¬ isS 1 = false := by decide
  rw [if_neg hS, show tn 1 = 1 from rfl, if_neg hv] at e
  rw [if_neg hS, if_neg hS, show tn 1 = 1 from rfl, if_neg hv, if_neg hv] at hO'
  exact ⟨e, ⟨_, _, LR.of (un' := 0) hk hO' (OR.rf hO).un6 ht⟩, fun q hq => hO'.2 q (hk q hq)⟩
theorem l_restore00 (h : LR U Kp μ a z un t s0 s1 v0 v1) (hv : v0 = 0) : Ct l U yX4_restore cX4_restore 2 (some .int) ({ frames := 4, cells := 0, slots := 0, locals := 89 } : Room) [.ref a, .int 0] μ (fun v μ' => v = some (.int (-100005)) ∧ LR U Kp μ' a z un t s0 s1 v0 v1 ∧ KF Kp μ μ') := by
  obtain ⟨lab, shs, pa, o, rs, p, sv, rfl, hk, hO, rfl, ht, rfl, rfl, rfl, rfl⟩ := h
  refine (c_X4_restore l U lab μ shs pa o rs p un sv hO 0).mono (fun v μ' hq => ?_)
  obtain ⟨e, shs', hO'⟩ := hq
  have hS : ¬ isS 0 = false := by decide
  rw [if_neg hS, show tn 0 = 0 from rfl, if_pos hv] at e
  rw [if_neg hS, if_neg hS, show tn 0 = 0 from rfl, if_pos hv, if_pos hv] at hO'
  exact ⟨e, ⟨lab, shs', pa, o, rs, p, sv, rfl, hk, hO'.1, rfl, ht, rfl, rfl, rfl, rfl⟩, fun q hq => hO'.2 q (hk q hq)⟩
end XLR
section XLROWS
variable {U : xU} {K : xK} {y : MethodName} {cc : ByteArray} {nL cells slots : Nat} {ret : Option FieldType} {rm : Room} {Q : State → Prop} {μ : xH} {pc index n : Nat} {ls : List (Option Value)} {st : List Value} {a : Nat} {y' : MethodName} {b' : ByteArray} {maxL : Nat} {ret' : Option FieldType} {rm' : Room}
theorem aw_lV (X : Cx U K y cc nL ret rm) {As : List Value} {r : Value} {P : xH → Prop} (h0 : ∃ fs : List Value, μ a = some (.inr (4, fs))) (hM : Ct (kl K) U y' b' maxL ret' rm' (.ref a :: As) μ (fun v μ' => v = some r ∧ P μ')) (hs : XV y.cls index y') (hy : XY y' b' maxL ret' n) (hrm : rm'.frames + 1 ≤ rm.frames ∧ 8 + (maxL + 11) + rm'.locals ≤ rm.locals) (hm : rm'.cells = 0 ∧ rm'.slots = 0) (hf : cells ≤ rm.cells ∧ slots ≤ rm.slots) (hn : As.length = n) (hst : (st.map fun v => v.category).sum ≤ 8) (hci : xcl[4]? = some (y'.cls, TX4, 8)) (hdg : decode cc pc = .ok (.invokevirtual index, 3)) (kk : ∀ μ' : xH, P μ' → AW U K nL cells slots Q μ' (pc + 3) ls (r :: st)) : AW U K nL cells slots Q μ pc ls (As.reverse ++ .ref a :: st) := by
  have hR := X.2.2.2.2.2.2.2.1
  obtain ⟨fs, h0⟩ := h0
  refine aw_cV X hM hs hy hrm (by rw [hm.1, hm.2, hR]; exact hf) hn hst h0 hci hdg (fun v μ1 hp => ?_)
  obtain ⟨rfl, hp⟩ := hp
  rw [hm.1, hm.2]
  exact kk _ hp
theorem aw_lF (X : Cx U K y cc nL ret rm) {As : List Value} {r : Value} (h0 : ∃ fs : List Value, μ a = some (.inr (4, fs))) (hM : Ct (kl K) U y' b' maxL ret' rm' (.ref a :: As) μ (fun v μ' => v = some r ∧ μ' = μ)) (hs : XV y.cls index y') (hy : XY y' b' maxL ret' n) (hrm : rm'.frames + 1 ≤ rm.frames ∧ 8 + (maxL + 11) + rm'.locals ≤ rm.locals) (hm : rm'.cells = 0 ∧ rm'.slots = 0) (hf : cells ≤ rm.cells ∧ slots ≤ rm.slots) (hn : As.length = n) (hst : (st.map fun v => v.category).sum ≤ 8) (hci : xcl[4]? = some (y'.cls, TX4, 8)) (hdg : decode cc pc = .ok (.invokevirtual index, 3)) (kk : AW U K nL cells slots Q μ (pc + 3) ls (r :: st)) : AW U K nL cells slots Q μ pc ls (As.reverse ++ .ref a :: st) :=
  aw_lV X h0 hM hs hy hrm hm hf hn hst hci hdg (fun μ' e => by rw [e]; exact kk)
theorem aw_lS (X : Cx U K y cc nL ret rm) {As : List Value} {r : Value} {P : xH → Prop} (mc ms : Nat) (hM : Ct (kl K) U y' b' maxL ret' rm' As μ (fun v μ' => v = some r ∧ P μ')) (hs : XS y.cls index y') (hy : XY y' b' maxL ret' n) (hrm : rm'.frames + 1 ≤ rm.frames ∧ 8 + (maxL + 11) + rm'.locals ≤ rm.locals) (hm : rm'.cells = mc ∧ rm'.slots = ms) (hf : cells + mc ≤ rm.cells ∧ slots + ms ≤ rm.slots) (hn : As.length = n) (hst : (st.map fun v => v.category).sum ≤ 8) (hdg : decode cc pc = .ok (.invokestatic index, 3)) (kk : ∀ μ' : xH, P μ' → AW U K nL (cells + mc) (slots + ms) Q μ' (pc + 3) ls (r :: st)) : AW U K nL cells slots Q μ pc ls (As.reverse ++ st) := by
  have hR := X.2.2.2.2.2.2.2.1
  refine aw_cS X hM hs hy hrm (by rw [hm.1, hm.2, hR]; exact hf) hn hst hdg (fun v μ1 hp => ?_)
  obtain ⟨rfl, hp⟩ := hp
  rw [hm.1, hm.2]
  exact kk _ hp
theorem aw_lSF (X : Cx U K y cc nL ret rm) {As : List Value} {r : Value} (hM : Ct (kl K) U y' b' maxL ret' rm' As μ (fun v μ' => v = some r ∧ μ' = μ)) (hs : XS y.cls index y') (hy : XY y' b' maxL ret' n) (hrm : rm'.frames + 1 ≤ rm.frames ∧ 8 + (maxL + 11) + rm'.locals ≤ rm.locals) (hm : rm'.cells = 0 ∧ rm'.slots = 0) (hf : cells ≤ rm.cells ∧ slots ≤ rm.slots) (hn : As.length = n) (hst : (st.map fun v => v.category).sum ≤ 8) (hdg : decode cc pc = .ok (.invokestatic index, 3)) (kk : AW U K nL cells slots Q μ (pc + 3) ls (r :: st)) : AW U K nL cells slots Q μ pc ls (As.reverse ++ st) :=
  aw_lS X 0 0 hM hs hy hrm hm hf hn hst hdg (fun μ' e => by rw [e]; exact kk)
/-- an array of the law's own -/
theorem aw_mld (X : Cx U K y cc nL ret rm) {b N : Nat} {f : Nat → Int32} {i : Int32} (hm : μ b = some (.inl (uC U 0, N, .inl f))) (j : Nat) (hin : vp_in i N) (hj : i.toNatClampNeg = j) (hdg : decode cc pc = .ok (.iaload, 1)) (kk : AW U K nL cells slots Q μ (pc + 1) ls (.int (f j) :: st)) : AW U K nL cells slots Q μ pc ls (.int i :: .ref b :: st) := by
  subst hj
  exact aw_iald X hm hin hdg kk
theorem aw_mst (X : Cx U K y cc nL ret rm) {Kp : Nat → Prop} {z : xV} {un : Nat} {t s0 s1 : xV} {v0 v1 : Int32} (hR : LR U Kp μ a z un t s0 s1 v0 v1) {b N : Nat} {f : Nat → Int32} {i x : Int32} (hb : Kp b) (hm : μ b = some (.inl (uC U 0, N, .inl f))) (j : Nat) (hin : vp_in i N) (hj : i.toNatClampNeg = j) (hdg : decode cc pc = .ok (.iastore, 1)) (kk : ∀ μ' : xH, LR U Kp μ' a z un t s0 s1 v0 v1 → μ' b = some (.inl (uC U 0, N, .inl (upd f j x))) → (∀ q, q ≠ b → μ' q = μ q) → AW U K nL cells slots Q μ' (pc + 1) ls st) : AW U K nL cells slots Q μ pc ls (.int x :: .int i :: .ref b :: st) := by
  subst hj
  exact aw_iast X hm hin hdg (kk _ (hR.put hb) xup_s (fun q hq => xup_n hq))
theorem aw_mnew (X : Cx U K y cc nL ret rm) {Kp : Nat → Prop} {z : xV} {un : Nat} {t s0 s1 : xV} {v0 v1 : Int32} (hR : LR U Kp μ a z un t s0 s1 v0 v1) {n : Int32} (N : Nat) (hn : ¬ n < 0) (hN : n.toNatClampNeg = N) (hb : N * componentBytes .int ≤ 536870912) (hc : cells + 1 ≤ rm.cells ∧ slots + N ≤ rm.slots) (hdg : decode cc pc = .ok (.newarray .int, 2)) (kk : ∀ (b : Nat) (μ' : xH), LR U (fun q => Kp q ∨ q = b) μ' a z un t s0 s1 v0 v1 → μ b = none → μ' b = some (.inl (uC U 0, N, .inl (fun _ => 0))) → (∀ q, q ≠ b → μ' q = μ q) → AW U K nL (cells + 1) (slots + N) Q μ' (pc + 2) ls (.ref b :: st)) : AW U K nL cells slots Q μ pc ls (.int n :: st) :=
  aw_newa X (ty := .int) (t0 := 0) ac_int rfl rfl rfl rfl hn hN hb hc hdg (fun q hq => kk q _ (hR.new hq) hq xup_s (fun r hr => xup_n hr))
end XLROWS
