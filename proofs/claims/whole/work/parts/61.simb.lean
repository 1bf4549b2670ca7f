/-! every change, in both systems -/
section XCHG
variable {rs : xR} {p : xV} {un : Nat} {sv : Nat → Int32} {m : xV}
theorem SimA.hr (h : SimA rs p un sv m) : ∀ j, j < 200 → mRec m un j = m j := fun j hj => mRec_lt h.2.1.1 (Or.inl hj)
abbrev K6 (j : Nat) : Prop := j = 6 ∨ 80 ≤ j ∨ (28 ≤ j ∧ j < 48 ∧ ((j - 26) % 6 = 2 ∨ (j - 26) % 6 = 3))
theorem SimA.cbr (h : SimA rs p un sv m) : CB (mRec m un) := h.1.2.2.2.2.cg (fun i hi => ⟨h.hr _ (by simp only [hz]; omega), h.hr _ (by simp only [hz]; omega)⟩)
theorem SimA.kp' (h : SimA rs p un sv m) {a : Int32 × xV} (ho : ∀ j, j = 6 ∨ 80 ≤ j → a.2 j = mRec m un j) (hc : CB a.2) : (∀ j, 80 ≤ j → a.2 j = mRec m un j) ∧ (∃ hn, hn ≤ 9999 ∧ a.2 6 = nI hn) ∧ CB a.2 := by
  obtain ⟨hn, h1, h2⟩ := h.1.2.2.2.1
  exact ⟨fun j hj => ho j (Or.inr hj), ⟨hn, h1, by rw [ho 6 (Or.inl rfl), h.hr 6 (by decide)]; exact h2⟩, hc⟩
theorem SimA.kp (h : SimA rs p un sv m) {a : Int32 × xV} (ho : ∀ j, K6 j → a.2 j = mRec m un j) : (∀ j, 80 ≤ j → a.2 j = mRec m un j) ∧ (∃ hn, hn ≤ 9999 ∧ a.2 6 = nI hn) ∧ CB a.2 :=
  h.kp' (fun j hj => ho j (by omega)) (h.cbr.cg (fun i hi => ⟨ho _ (by simp only [K6, hz]; omega), ho _ (by simp only [K6, hz]; omega)⟩))
theorem SimA.set (h : SimA rs p un sv m) (s v : Int32) : (gSet (rs 0) s v).1 = (mDo (eSet s v) (aSet (mRec m un) s v) m).1 ∧ SimA (dRs rs un (gSet (rs 0) s v)) p (dUn un (gSet (rs 0) s v)) sv (mDo (eSet s v) (aSet (mRec m un) s v) m).2 := by
  refine h.change ((h.1.1.rec h.2.1.1).set (h.1.2.1.rec h.2.1.1) s v) (fun e0 => h.kp (fun j hj => ?_))
  have hs : inB s 0 5 = true := by
    unfold eSet at e0
    by_cases c : inB s 0 5 = false
    · rw [if_pos c] at e0; exact absurd e0 (by decide)
    · simpa using c
  obtain ⟨sn, hsn, es, ets⟩ := inB_tn (n := 5) rfl (by decide) hs
  show upd _ (tn s) v j = _
  rw [ets, upd_n (by omega)]
theorem SimA.arrive (h : SimA rs p un sv m) (a b c d : Int32) : (gArrive (rs 0) a b c d).1 = (mDo (eArr m a b c d) (aArr (mRec m un) (tn (m 12)) a b c d) m).1 ∧ SimA (dRs rs un (gArrive (rs 0) a b c d)) p (dUn un (gArrive (rs 0) a b c d)) sv (mDo (eArr m a b c d) (aArr (mRec m un) (tn (m 12)) a b c d) m).2 := by
  have hD := (h.1.1.rec h.2.1.1).arrive (h.1.2.1.rec h.2.1.1) a b c d
  rw [cg_eArr (fun j hj => h.hr j (by omega)), h.hr 12 (by decide)] at hD
  refine h.change hD (fun e0 => h.kp (fun j hj => ?_))
  have hw : tn (m 12) < 5 := by
    obtain ⟨wn, -, hwn5, h12⟩ := rgN (lo := 0) (hi := 5) (by decide) (by decide) h.1.2.1.2.2.1
    have etw : tn (m 12) = wn := by rw [h12, tn, nI_clamp (by omega)]
    rw [etw]
    rcases Nat.lt_or_ge wn 5 with q | q
    · exact q
    · exfalso
      have e5 : m 12 = 5 := by rw [h12, show wn = 5 by omega]; rfl
      unfold eArr at e0
      rw [if_pos e5] at e0
      split at e0
      · exact absurd e0 (by decide)
      · exact absurd e0 (by decide)
  unfold aArr
  simp only [tz]
  repeat rw [upd_n (by omega)]
theorem SimA.berth (h : SimA rs p un sv m) : (gBerth (rs 0)).1 = (mDo (eBer m) (mBer (mRec m un)) m).1 ∧ SimA (dRs rs un (gBerth (rs 0))) p (dUn un (gBerth (rs 0))) sv (mDo (eBer m) (mBer (mRec m un)) m).2 := by
  have hD := (h.1.1.rec h.2.1.1).berth (h.1.2.1.rec h.2.1.1)
  rw [cg_eBer (fun j hj => h.hr j (by omega))] at hD
  refine h.change hD (fun e0 => h.kp (fun j hj => ?_))
  unfold mBer
  dsimp only
  rw [upd_n (by omega), upd_n (by omega), xcp_o (by omega)]
theorem SimA.leave (h : SimA rs p un sv m) : (gLeave (rs 0)).1 = (mDo (eLea m) (aLea (mRec m un)) m).1 ∧ SimA (dRs rs un (gLeave (rs 0))) p (dUn un (gLeave (rs 0))) sv (mDo (eLea m) (aLea (mRec m un)) m).2 := by
  have hD := (h.1.1.rec h.2.1.1).leave (h.1.2.1.rec h.2.1.1)
  rw [cg_eLea (fun j hj => h.hr j (by omega))] at hD
  refine h.change hD (fun e0 => h.kp (fun j hj => ?_))
  show upd _ 13 0 j = _
  rw [upd_n (by omega)]
theorem hz_n6 {h : Int32} {f j : Nat} (hg : isG h = true) (hf : f < 2) (hj : K6 j) : j ≠ hz (tn h) f := by
  have := isG_tn hg
  simp only [hz, tn, K6] at *
  omega
theorem hz_no {h : Int32} {f j : Nat} (hg : isG h = true) (hf : f < 6) (hj : j = 6 ∨ 80 ≤ j) : j ≠ hz (tn h) f := by
  have := isG_tn hg
  simp only [hz, tn] at *
  omega
theorem SimA.reach (h : SimA rs p un sv m) (hh v : Int32) : (gReach (rs 0) hh v).1 = (mDo (eRea hh v) (aRea (mRec m un) hh v) m).1 ∧ SimA (dRs rs un (gReach (rs 0) hh v)) p (dUn un (gReach (rs 0) hh v)) sv (mDo (eRea hh v) (aRea (mRec m un) hh v) m).2 := by
  refine h.change ((h.1.1.rec h.2.1.1).reach (h.1.2.1.rec h.2.1.1) hh v) (fun e0 => h.kp (fun j hj => ?_))
  have hg : isG hh = true := by
    unfold eRea at e0
    by_cases c : isG hh = false
    · rw [if_pos c] at e0; exact absurd e0 (by decide)
    · simpa using c
  show upd _ (hz (tn hh) 0) v j = _
  rw [upd_n (hz_n6 hg (by decide) hj)]
theorem SimA.connect (h : SimA rs p un sv m) (hh g : Int32) : (gConnect (rs 0) hh g).1 = (mDo (eCon m hh g) (aCon (mRec m un) (tn hh) g) m).1 ∧ SimA (dRs rs un (gConnect (rs 0) hh g)) p (dUn un (gConnect (rs 0) hh g)) sv (mDo (eCon m hh g) (aCon (mRec m un) (tn hh) g) m).2 := by
  have hD := (h.1.1.rec h.2.1.1).connect (h.1.2.1.rec h.2.1.1) hh g
  rw [cg_eCon (fun j hj => h.hr j (by omega))] at hD
  refine h.change hD (fun e0 => ?_)
  have hg : isG hh = true := by
    unfold eCon at e0
    by_cases c : isG hh = false
    · rw [if_pos (Or.inl c)] at e0; exact absurd e0 (by decide)
    · simpa using c
  refine h.kp' (fun j hj => ?_) ?_
  · show upd _ (hz (tn hh) 2) g j = _
    rw [upd_n (hz_no hg (by decide) hj)]
  · intro i hi hg2
    show upd _ (hz (tn hh) 2) g (hz i 3) = 0
    rw [upd_n (by simp only [hz]; omega), h.hr _ (by simp only [hz]; omega)]
    by_cases e : i = tn hh
    · have hk : kCon m (tn hh) = true := by
        unfold eCon at e0
        by_cases c : isG hh = false ∨ isG g = false
        · rw [if_pos c] at e0; exact absurd e0 (by decide)
        · rw [if_neg c] at e0
          by_cases c2 : kCon m (tn hh) = false
          · rw [if_pos c2] at e0; exact absurd e0 (by decide)
          · simpa using c2
      unfold kCon at hk
      simp only [Bool.and_eq_true, decide_eq_true_eq] at hk
      rw [e]
      exact hk.1.1.2
    · have hg3 : isG (upd (mRec m un) (hz (tn hh) 2) g (hz i 2)) = true := hg2
      rw [upd_n (by simp only [hz]; omega), h.hr _ (by simp only [hz]; omega)] at hg3
      exact h.1.2.2.2.2 i hi hg3
theorem SimA.disconnect (h : SimA rs p un sv m) (hh : Int32) : (gDisconnect (rs 0) hh).1 = (mDo (eDis m hh) (aDis (mRec m un) (tn hh)) m).1 ∧ SimA (dRs rs un (gDisconnect (rs 0) hh)) p (dUn un (gDisconnect (rs 0) hh)) sv (mDo (eDis m hh) (aDis (mRec m un) (tn hh)) m).2 := by
  have hD := (h.1.1.rec h.2.1.1).disconnect (h.1.2.1.rec h.2.1.1) hh
  rw [cg_eDis (fun j hj => h.hr j (by omega))] at hD
  refine h.change hD (fun e0 => ?_)
  have hg : isG hh = true := by
    unfold eDis at e0
    by_cases c : isG hh = false
    · rw [if_pos c] at e0; exact absurd e0 (by decide)
    · simpa using c
  refine h.kp' (fun j hj => ?_) ?_
  · show upd _ (hz (tn hh) 2) _ j = _
    rw [upd_n (hz_no hg (by decide) hj)]
  · intro i hi hg2
    have hg3 : isG (upd (mRec m un) (hz (tn hh) 2) (-100006) (hz i 2)) = true := hg2
    show upd _ (hz (tn hh) 2) _ (hz i 3) = 0
    rw [upd_n (by simp only [hz]; omega)]
    by_cases e : i = tn hh
    · rw [e, upd_s] at hg3; exact absurd hg3 (by decide)
    · rw [upd_n (by simp only [hz]; omega)] at hg3
      exact h.cbr i hi hg3
theorem SimA.flush (h : SimA rs p un sv m) (hh : Int32) : (gFlush (rs 0) hh).1 = (mDo (eFlu m hh) (aFlu (mRec m un) (tn hh)) m).1 ∧ SimA (dRs rs un (gFlush (rs 0) hh)) p (dUn un (gFlush (rs 0) hh)) sv (mDo (eFlu m hh) (aFlu (mRec m un) (tn hh)) m).2 := by
  have hD := (h.1.1.rec h.2.1.1).flush (h.1.2.1.rec h.2.1.1) hh
  rw [cg_eFlu (fun j hj => h.hr j (by omega))] at hD
  refine h.change hD (fun e0 => h.kp (fun j hj => ?_))
  have hg : isG hh = true := by
    unfold eFlu at e0
    by_cases c : isG hh = false
    · rw [if_pos c] at e0; exact absurd e0 (by decide)
    · simpa using c
  have hf : kFlu m (tn hh) = true := by
    unfold eFlu at e0
    rw [if_neg (by rw [hg]; decide)] at e0
    by_cases c : kFlu m (tn hh) = false
    · rw [if_pos c] at e0; exact absurd e0 (by decide)
    · simpa using c
  have h4 := isG_tn hg
  have hG : isG (mRec m un (hz (tn hh) 1)) = true := by
    rw [h.hr _ (by simp only [hz, tn] at *; omega)]
    unfold kFlu at hf
    simp only [Bool.and_eq_true] at hf
    exact hf.2
  have h5 := isG_tn hG
  show upd (upd (upd _ (14 + tn (mRec m un (hz (tn hh) 1))) _) (18 + tn (mRec m un (hz (tn hh) 1))) _) (hz (tn hh) 1) _ j = _
  have h7 : j ≠ 14 + tn (mRec m un (hz (tn hh) 1)) := by simp only [tn] at *; omega
  have h8 : j ≠ 18 + tn (mRec m un (hz (tn hh) 1)) := by simp only [tn] at *; omega
  rw [upd_n (hz_n6 hg (by decide) hj), upd_n h8, upd_n h7]
theorem SimA.mend (h : SimA rs p un sv m) (hh : Int32) : (gMend (rs 0) hh).1 = (mDo (eMen m hh) (aMen (mRec m un) (tn hh)) m).1 ∧ SimA (dRs rs un (gMend (rs 0) hh)) p (dUn un (gMend (rs 0) hh)) sv (mDo (eMen m hh) (aMen (mRec m un) (tn hh)) m).2 := by
  have hD := (h.1.1.rec h.2.1.1).mend (h.1.2.1.rec h.2.1.1) hh
  rw [cg_eMen (fun j hj => h.hr j (by omega))] at hD
  refine h.change hD (fun e0 => ?_)
  have hg : isG hh = true := by
    unfold eMen at e0
    by_cases c : isG hh = false
    · rw [if_pos c] at e0; exact absurd e0 (by decide)
    · simpa using c
  refine h.kp' (fun j hj => ?_) ?_
  · show upd (upd _ (hz (tn hh) 3) 0) (hz (tn hh) 1) _ j = _
    rw [upd_n (hz_no hg (by decide) hj), upd_n (hz_no hg (by decide) hj)]
  · intro i hi hg2
    have hg3 : isG (upd (upd (mRec m un) (hz (tn hh) 3) 0) (hz (tn hh) 1) (-100006) (hz i 2)) = true := hg2
    show upd (upd _ (hz (tn hh) 3) 0) (hz (tn hh) 1) _ (hz i 3) = 0
    rw [upd_n (by simp only [hz]; omega)]
    by_cases e : i = tn hh
    · rw [e, upd_s]
    · rw [upd_n (by simp only [hz]; omega)]
      rw [upd_n (by simp only [hz]; omega), upd_n (by simp only [hz]; omega)] at hg3
      exact h.cbr i hi hg3
theorem SimA.boom (h : SimA rs p un sv m) {b : Int32} (hb : xz b) : (gBoom (rs 0) b).1 = (mDo (eBoo m b) (aBoo (mRec m un) b) m).1 ∧ SimA (dRs rs un (gBoom (rs 0) b)) p (dUn un (gBoom (rs 0) b)) sv (mDo (eBoo m b) (aBoo (mRec m un) b) m).2 := by
  have hD := (h.1.1.rec h.2.1.1).boom (h.1.2.1.rec h.2.1.1) hb
  rw [cg_eBoo (fun j hj => h.hr j (by omega))] at hD
  refine h.change hD (fun e0 => h.kp (fun j hj => ?_))
  show upd (upd (upd _ 10 _) 8 0) 7 b j = _
  rw [upd_n (by omega), upd_n (by omega), upd_n (by omega)]
theorem SimA.draw (h : SimA rs p un sv m) (g u : Int32) : (gDraw (rs 0) g u).1 = (mDo (eDra m g u) (aDra (mRec m un) g u) m).1 ∧ SimA (dRs rs un (gDraw (rs 0) g u)) p (dUn un (gDraw (rs 0) g u)) sv (mDo (eDra m g u) (aDra (mRec m un) g u) m).2 := by
  have hD := (h.1.1.rec h.2.1.1).draw (h.1.2.1.rec h.2.1.1) g u
  rw [cg_eDra (fun j hj => h.hr j (by omega))] at hD
  refine h.change hD (fun e0 => h.kp (fun j hj => ?_))
  have hg : isG g = true := by
    unfold eDra at e0
    by_cases c : isG g = false
    · rw [if_pos c] at e0; exact absurd e0 (by decide)
    · simpa using c
  have h4 := isG_tn hg
  show upd _ (14 + tn g) _ j = _
  rw [upd_n (by simp only [tn] at *; omega)]
theorem SimA.pass (h : SimA rs p un sv m) (n : Int32) : (gPass (rs 0) n).1 = (mDo (ePas m n) (gHours (mRec m un) (tn n)) m).1 ∧ SimA (dRs rs un (gPass (rs 0) n)) p (dUn un (gPass (rs 0) n)) sv (mDo (ePas m n) (gHours (mRec m un) (tn n)) m).2 := by
  have hD := (h.1.1.rec h.2.1.1).pass (h.1.2.1.rec h.2.1.1) n
  rw [cg_ePas (fun j hj => h.hr j (by omega))] at hD
  refine h.change hD (fun e0 => ⟨fun j hj => gHours_o (by omega) _, ?_, h.cbr.hours _⟩)
  have hi : inB n 1 48 = true := by
    unfold ePas at e0
    by_cases c : inB n 1 48 = false
    · rw [if_pos c] at e0; exact absurd e0 (by decide)
    · simpa using c
  obtain ⟨k, hk, ek, etk⟩ := inB_tn (n := 48) rfl (by decide) (inB_mono hi)
  obtain ⟨hn, h1, h2⟩ := h.1.2.2.2.1
  refine ⟨hn + k, ?_, by rw [etk]; exact gHours_6 (by rw [h.hr 6 (by decide)]; exact h2) k⟩
  unfold ePas at e0
  rw [if_neg (by rw [hi]; decide)] at e0
  by_cases c : 9999 < m 6 + n
  · rw [if_pos c] at e0; exact absurd e0 (by decide)
  · rw [h2, ek, nI_add, show (9999 : Int32) = nI 9999 from rfl] at c
    rcases Nat.lt_or_ge 9999 (hn + k) with q | q
    · exact absurd (nI_lt q (by omega)) c
    · exact q
end XCHG
