/-! what is told, what would be, undo and slots, in both systems -/
theorem ff_cg {P Q : Nat → Bool} : ∀ (d k : Nat), (∀ j, k ≤ j → j < k + d → P j = Q j) → ff P d k = ff Q d k := by
  intro d
  induction d with
  | zero => intro k _; rfl
  | succ d ih =>
    intro k h
    rw [ff, ff, h k (Nat.le_refl _) (by omega), ih (k + 1) (fun j h1 h2 => h j (by omega) (by omega))]
theorem uFl_ff {m : xV} : ∀ (d k : Nat), k + d = 13 → uFl m d = if ff (fun k => cFloats m (cDraught m 1) (m 6 + nI k)) d k = 13 then -100006 else nI (ff (fun k => cFloats m (cDraught m 1) (m 6 + nI k)) d k) := by
  intro d
  induction d with
  | zero =>
    intro k hk
    obtain rfl : k = 13 := by omega
    rw [ff, if_pos rfl]
    rfl
  | succ d ih =>
    intro k hk
    have e : (12 : Int32) - nI d = nI k := by rw [show (12 : Int32) = nI 12 from rfl, pk_sub (by omega)]; congr 1; omega
    rw [uFl, ff, e]
    by_cases c : cFloats m (cDraught m 1) (m 6 + nI k) = true
    · rw [if_pos c, if_pos c, if_neg (by omega)]
    · rw [if_neg c, if_neg c]
      exact ih (k + 1) (by omega)
theorem Sim.until {y m : xV} (h : Sim y m) (hv : IV m) : cUnt y = kUnt m := by
  unfold cUnt kUnt
  rw [h.r (k := 12) (Or.inl (by decide))]
  by_cases c : m 12 = 0
  · rw [if_pos c, if_pos c]
  rw [if_neg c, if_neg c, uFl_ff 13 0 rfl]
  have hl : live m 1 := by
    obtain ⟨wn, -, hw, h12⟩ := rgN (lo := 0) (hi := 5) (by decide) (by decide) hv.2.2.1
    unfold live
    rw [if_neg (by decide), h12]
    refine nI_le ?_ (by omega)
    rcases Nat.eq_zero_or_pos wn with q | q
    · rw [h12, q] at c; exact absurd rfl c
    · exact q
  have e : ff (fun k => cFloats y (cDraught y 1) (y 6 + nI k)) 13 0 = ff (fun k => cFloats m (cDraught m 1) (m 6 + nI k)) 13 0 := ff_cg 13 0 (fun k _ _ => by rw [h.draught (by decide) hl, h.floats, h.r (k := 6) (Or.inl (by decide))])
  rw [e]
theorem Sim.sfNe {y m : xV} (h : Sim y m) (hv : IV m) {i : Nat} (hi : i < 4) : sfN y i = sfN m i := by
  unfold sfN
  refine ff_cg 200 0 (fun k _ _ => ?_)
  rw [(h.hours hv (k + 1)).2.rh hi (f := 3) (by decide)]
section XASK
variable {rs : xR} {p : xV} {un : Nat} {sv : Nat → Int32} {m : xV}
theorem SimA.kept (h : SimA rs p un sv m) : Sim (rs 0) (xcp m 100 0 80) ∧ IV (xcp m 100 0 80) := ⟨h.1.1.back, h.1.2.1.cg (fun k hk => xcp_o (by omega))⟩
theorem SimA.xkeep (h : SimA rs p un sv m) : SimA rs p un sv (xcp m 100 0 80) := h.mcg (fun k hk => xcp_o (by omega))
theorem SimA.count (h : SimA rs p un sv m) (w : Int32) : oCount rs p un w = kCnt m w := by
  unfold oCount
  by_cases c : w = 18
  · rw [if_pos c, c]
    obtain ⟨n, -, f2, f3, -⟩ := h.2.2.2.2
    rw [f2, ← f3]; rfl
  rw [if_neg c]
  by_cases c2 : w = 19
  · rw [if_pos c2, c2, ← h.2.1.2]; rfl
  · rw [if_neg c2]
    exact h.1.1.number h.1.2.1 c c2
theorem SimA.safe (h : SimA rs p un sv m) (hh : Int32) : cSaf (rs 0) hh = kSaf m hh := by
  unfold cSaf kSaf
  by_cases c : isG hh = false
  · rw [if_pos c, if_pos c]
  have hi : tn hh < 4 := isG_tn (by simpa using c)
  rw [if_neg c, if_neg c, h.1.1.rh hi (f := 2) (by decide)]
  by_cases c2 : isG (m (hz (tn hh) 2)) = false
  · rw [if_pos c2, if_pos c2]
  rw [if_neg c2, if_neg c2, ← upd_id (show xcp m 100 0 80 (hz (tn hh) 0) = m (hz (tn hh) 0) from xcp_o (by have := hz_lt hi (show 0 < 6 by decide); omega)), ← h.kept.1.sfNe h.kept.2 hi]
  have hle := sfN_le (rs 0) (tn hh)
  by_cases c3 : sfN (rs 0) (tn hh) = 200
  · rw [if_pos c3, if_pos (by rw [c3]; rfl)]
  · rw [if_neg c3, if_neg (show ¬ nI (sfN (rs 0) (tn hh)) = 200 from fun q => c3 ((nI_eq (by omega) (by decide)).mp q))]
theorem SimA.empty (h : SimA rs p un sv m) : cEmp (rs 0) = if m 13 = 0 then -100005 else kEmp (xcp m 100 0 80) := by
  unfold cEmp kEmp
  rw [h.1.1.r (k := 13) (Or.inl (by decide))]
  by_cases c : m 13 = 0
  · rw [if_pos c, if_pos c]
  rw [if_neg c, if_neg c]
  obtain ⟨hS, hI⟩ := h.kept
  have h13 : m 13 = 1 := h.1.2.1.2.2.2.1.resolve_left c
  have hl : ∀ k, live (gHours (xcp m 100 0 80) k).2 0 := fun k => by
    unfold live
    rw [if_pos rfl, gHours_o (by omega), xcp_o (by omega)]
    exact h13
  have hu : ∀ k, cUnits (gHours (rs 0) k).2 0 = cUnits (gHours (xcp m 100 0 80) k).2 0 := fun k => (hS.hours hI k).2.units (by decide) (hl k)
  have e : ceN (rs 0) = ueN (xcp m 100 0 80) := by
    unfold ceN ueN
    refine ff_cg 200 0 (fun k _ _ => ?_)
    rw [hu k]
    have h0 := units_0 ((hI.hours k).1) (by have := hl k; unfold live at this; rw [if_pos rfl] at this; exact this)
    refine decide_eq_decide.mpr ⟨fun q => by rw [q]; decide, fun q => Int32.le_antisymm (Int32.not_lt.mp q) (Int32.not_lt.mp h0)⟩
  rw [e, hu]
theorem SimA.ifp (h : SimA rs p un sv m) (n w : Int32) : cIfP (rs 0) n w = if (inB n 1 200 && inB w 0 3) = false then -100002 else kIfP (xcp m 100 0 80) (tn n) w := by
  unfold cIfP kIfP
  obtain ⟨hS, hI⟩ := h.kept
  have hh := hS.hours hI (tn n)
  by_cases c : n < 1 ∨ 200 < n ∨ w < 0 ∨ 3 < w
  · rw [if_pos c, if_pos]
    rcases c with c | c | c | c
    · rw [inB_f (Or.inl c)]; rfl
    · rw [inB_f (Or.inr c)]; rfl
    · rw [inB_f (v := w) (Or.inl c), Bool.and_false]
    · rw [inB_f (v := w) (Or.inr c), Bool.and_false]
  · have hb : ¬ (inB n 1 200 && inB w 0 3) = false := by
      rw [(inB_t (v := n) (fun q => c (q.elim Or.inl (fun q => Or.inr (Or.inl q))))).1, (inB_t (v := w) (fun q => c (Or.inr (Or.inr q)))).1]
      decide
    rw [if_neg c, if_neg hb]
    rw [hh.1, hh.2.r (k := 9) (Or.inl (by decide)), hh.2.r (k := 11) (Or.inl (by decide)), hh.2.spoilt, hS.r (k := 9) (Or.inl (by decide)), hS.r (k := 11) (Or.inl (by decide)), hS.spoilt]
theorem SimA.undo (h : SimA rs p un sv m) : (if un = 0 then -100005 else nI (un - 1)) = (mUndo m un).1 ∧ SimA (if un = 0 then rs else rup rs 0 (rs (3 + (un - 1)))) p (un - 1) sv (mUndo m un).2 := by
  by_cases c : un = 0
  · subst c
    exact ⟨rfl, h⟩
  obtain ⟨u, rfl⟩ : ∃ u, un = u + 1 := ⟨un - 1, by omega⟩
  obtain ⟨⟨a1, a2⟩, ⟨b1, b2⟩, c', d, n, f1, f2, f3, f4⟩ := h
  obtain ⟨g1, g2⟩ := c' u (by omega)
  obtain ⟨e1, e2⟩ := Sim.undo a2.2.1 b1 g1
  rw [if_neg c, if_neg c]
  refine ⟨e1.symm, ?_⟩
  have hat : ∀ k, k < 84 → (mUndo m (u + 1)).2 k = hrow m (200 + 80 * u) k := by
    unfold mUndo
    rw [if_neg c, Nat.add_sub_cancel]
    exact row_back (fun i hi => by rw [upd_n (by omega)]; exact a2.2.1 i hi) (fun k hk2 => upd_n (by omega))
  have ho : ∀ k, 84 ≤ k → k ≠ 940 → (mUndo m (u + 1)).2 k = m k := fun k hk h9 => by
    unfold mUndo
    rw [if_neg c, Nat.add_sub_cancel]
    show xcp _ 0 _ 80 k = m k
    rw [xcp_o (by omega), upd_n h9]
  refine ⟨⟨by rw [rup_s]; exact e2, g2.cg (fun k hk => hat k hk)⟩, ⟨by omega, ?_⟩, fun k hk => ?_, fun s hs => ?_, n, f1, f2, ?_, fun i hi => ?_⟩
  · unfold mUndo
    rw [if_neg c]
    show xcp (upd m 940 (nI (u + 1 - 1))) 0 (200 + 80 * (u + 1 - 1)) 80 940 = _
    rw [xcp_o (by omega), upd_s]
  · rw [rup_n (by omega), show hrow (mUndo m (u + 1)).2 (200 + 80 * k) = hrow m (200 + 80 * k) from hrow_cg (fun j hj => ho _ (by omega) (by omega))]
    exact c' k (by omega)
  · rw [rup_n (by omega), ho _ (by omega) (by omega), show hrow (mUndo m (u + 1)).2 (700 + 80 * s) = hrow m (700 + 80 * s) from hrow_cg (fun j hj => ho _ (by omega) (by omega))]
    exact d s hs
  · rw [ho _ (by decide) (by decide)]; exact f3
  · rw [ho _ (by omega) (by omega)]; exact f4 i hi
theorem SimA.save (h : SimA rs p un sv m) (s : Int32) : (if isS s = false then -100002 else rs 0 6) = (mSave m s).1 ∧ SimA (if isS s = false then rs else rup rs (9 + tn s) (rs 0)) p un (if isS s = false then sv else upd sv (tn s) 1) (mSave m s).2 := by
  unfold mSave
  by_cases c : isS s = false
  · rw [if_pos c, if_pos c, if_pos c, if_pos c]
    exact ⟨rfl, h⟩
  rw [if_neg c, if_neg c, if_neg c, if_neg c]
  obtain ⟨t, ht, es, et⟩ := isS_tn (by simpa using c)
  rw [et]
  obtain ⟨⟨a1, a2⟩, ⟨b1, b2⟩, c', d, n, f1, f2, f3, f4⟩ := h
  refine ⟨a1.r (Or.inl (by decide)), ?_⟩
  have hlo : ∀ k, k < 700 ∨ 862 ≤ k → upd (xcp m (700 + 80 * t) 0 80) (860 + t) 1 k = m k := fun k hk => saved_lt ht hk
  show SimA _ p un _ (upd (xcp m (700 + 80 * t) 0 80) (860 + t) 1)
  refine ⟨⟨by rw [rup_n (by omega)]; exact a1.cg (fun k hk => hlo k (by omega)), a2.cg (fun k hk => hlo k (by omega))⟩, ⟨b1, by rw [hlo _ (by omega)]; exact b2⟩, fun k hk => ?_, fun r hr => ?_, n, f1, f2, by rw [hlo _ (by omega)]; exact f3, fun i hi => by rw [upd_n (by omega), xcp_o (by omega)]; exact f4 i hi⟩
  · rw [rup_n (by omega), savedHist ht (by omega)]
    exact c' k hk
  · by_cases e : r = t
    · subst e
      rw [upd_s, upd_s, rup_s]
      exact ⟨rfl, fun _ => ⟨a1.saved hr a2.2.1, a2.kept (fun k hk => by rw [upd_n (by omega), xcp_i hk, Nat.zero_add])⟩⟩
    · rw [upd_n e, upd_n (by omega), xcp_o (by omega), rup_n (by omega), savedOther ht hr e]
      exact d r hr
theorem SimA.restore (h : SimA rs p un sv m) (s : Int32) : (if isS s = false then -100002 else if sv (tn s) = 0 then -100005 else rs (9 + tn s) 6) = (mRest m un s).1 ∧ SimA (if isS s = false then rs else if sv (tn s) = 0 then rs else dRs rs un (rs (9 + tn s) 6, rs (9 + tn s))) p (if isS s = false then un else if sv (tn s) = 0 then un else dUn un (rs (9 + tn s) 6, rs (9 + tn s))) sv (mRest m un s).2 := by
  unfold mRest
  by_cases c : isS s = false
  · rw [if_pos c, if_pos c, if_pos c, if_pos c]
    exact ⟨rfl, h⟩
  rw [if_neg c, if_neg c, if_neg c, if_neg c]
  obtain ⟨t, ht, es, et⟩ := isS_tn (by simpa using c)
  rw [et]
  obtain ⟨d1, d2⟩ := h.2.2.2.1 t ht
  rw [← d1]
  by_cases c2 : sv t = 0
  · rw [if_pos c2, if_pos c2, if_pos c2, if_pos c2]
    exact ⟨rfl, h⟩
  rw [if_neg c2, if_neg c2, if_neg c2, if_neg c2]
  obtain ⟨g1, g2⟩ := d2 c2
  have e6 : hrow m (700 + 80 * t) 6 = m (700 + 80 * t + 6) := by unfold hrow; rw [if_pos (by decide)]
  have hat : ∀ k, k < 84 → xcp (mRec m un) 0 (700 + 80 * t) 80 k = hrow m (700 + 80 * t) k := row_back (fun i hi => by rw [h.hr _ (by omega)]; exact h.1.2.2.1 i hi) (fun k hk2 => mRec_lt h.2.1.1 (by omega))
  obtain ⟨i1, i2, ⟨hn, i3, i4⟩, i5⟩ := g2
  have hD : Dn (rs (9 + t) 6, rs (9 + t)) 0 (m (700 + 80 * t + 6), xcp (mRec m un) 0 (700 + 80 * t) 80) (rs 0) := by
    refine Or.inr ⟨rfl, ⟨?_, Sim.restored h.2.1.1 ht h.1.2.2.1 g1⟩, ?_, i1.cg (fun k hk => hat k (by omega))⟩
    · show rs (9 + t) 6 = m (700 + 80 * t + 6)
      rw [g1.r (k := 6) (Or.inl (by decide)), e6]
    · show isErr (rs (9 + t) 6) = false
      rw [g1.r (k := 6) (Or.inl (by decide)), i4]
      exact ok_nI (by omega)
  have := h.change hD (fun _ => ⟨fun j hj => xcp_o (by omega), ⟨hn, i3, (hat 6 (by decide)).trans i4⟩, i5.cg (fun i hi => ⟨hat _ (by simp only [hz]; omega), hat _ (by simp only [hz]; omega)⟩)⟩)
  exact this
theorem SimA.wipe (h : SimA rs p un sv m) : p 60 = m 941 ∧ SimA rs (upd p 60 0) un sv (upd m 941 0) := by
  obtain ⟨⟨a1, a2⟩, ⟨b1, b2⟩, c', d, n, f1, f2, f3, f4⟩ := h
  have hlo : ∀ k, k ≠ 941 → upd m 941 0 k = m k := fun k hk => upd_n hk
  refine ⟨f2.trans f3.symm, ⟨a1.cg (fun k hk => hlo k (by omega)), a2.cg (fun k hk => hlo k (by omega))⟩, ⟨b1, by rw [hlo _ (by omega)]; exact b2⟩, fun k hk => ?_, fun r hr => ?_, 0, by decide, upd_s, upd_s, fun i hi => absurd hi (by omega)⟩
  · rw [show hrow (upd m 941 0) (200 + 80 * k) = hrow m (200 + 80 * k) from hrow_cg (fun j hj => hlo _ (by omega))]
    exact c' k hk
  · rw [hlo _ (by omega), show hrow (upd m 941 0) (700 + 80 * r) = hrow m (700 + 80 * r) from hrow_cg (fun j hj => hlo _ (by omega))]
    exact d r hr
end XASK
