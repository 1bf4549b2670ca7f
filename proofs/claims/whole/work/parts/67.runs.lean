/-! running orders, in both systems -/
theorem step_of {z ms : xV} {r a : Int32 × xV} {e : Int32} (hD : Dn r e a z) (hS : Sim z ms) (hJ : mJ ms) (hcan : mCan ms = true ↔ e = 0) (hact : mAct ms = a.2) (hk : e = 0 → (∀ j, 80 ≤ j → a.2 j = ms j) ∧ (∃ hn, hn ≤ 9999 ∧ a.2 6 = nI hn) ∧ CB a.2) : isErr r.1 = !(mCan ms) ∧ Sim r.2 (mOrdD ms) ∧ mJ (mOrdD ms) := by
  unfold mOrdD
  rcases hD with ⟨e0, eE, rfl⟩ | ⟨e0, hS2, eE, hI⟩
  · have hc : mCan ms = false := by
      cases q : mCan ms
      · rfl
      · exact absurd (hcan.mp q) e0
    rw [hc, if_neg (by decide)]
    exact ⟨eE, hS, hJ⟩
  · have hc := hcan.mpr e0
    obtain ⟨k1, k2, k3⟩ := hk e0
    rw [hc, if_pos rfl, hact]
    exact ⟨eE, hS2.2, hI, fun i hi => by rw [k1 _ (by omega)]; exact hJ.2.1 i hi, k2, k3⟩
theorem kp_of {ms : xV} {a : Int32 × xV} (hJ : mJ ms) (ho : ∀ j, j = 6 ∨ 80 ≤ j → a.2 j = ms j) (hc : CB a.2) : (∀ j, 80 ≤ j → a.2 j = ms j) ∧ (∃ hn, hn ≤ 9999 ∧ a.2 6 = nI hn) ∧ CB a.2 := by
  obtain ⟨hn, h1, h2⟩ := hJ.2.2.1
  exact ⟨fun j hj => ho j (Or.inr hj), ⟨hn, h1, by rw [ho 6 (Or.inl rfl)]; exact h2⟩, hc⟩
theorem inB_u {k : Nat} (h : k ≤ 400) : inB (nI k) 0 400 = true := by
  unfold inB
  rw [decide_eq_true (show (0 : Int32) ≤ nI k from nI_le (a := 0) (by omega) (by omega)), decide_eq_true (show nI k ≤ (400 : Int32) from nI_le (b := 400) (by omega) (by decide))]
  rfl
/-- an order that was read, done in both -/
theorem ord_step {p z ms : xV} (hS : Sim z ms) (hJ : mJ ms) (hE : fEq p ms) : mOk ms ∧ isErr (gOrd p z).1 = !(mCan ms) ∧ Sim (gOrd p z).2 (mOrdD ms) ∧ mJ (mOrdD ms) := by
  have hv := hJ.1
  have hcb := hJ.2.2.2
  rcases hE with ⟨e1, e2, e3, e4⟩ | ⟨e1, e2, e3, k, k1, k2, k3⟩ | ⟨e1, e2, e3, e4, e5⟩
  · refine ⟨Or.inl e2, ?_⟩
    obtain ⟨u0, a0, b0, c0⟩ := e3 0 (by decide)
    obtain ⟨u1, a1, b1, c1⟩ := e3 1 (by decide)
    obtain ⟨u2, a2, b2, c2⟩ := e3 2 (by decide)
    obtain ⟨u3, a3, b3, c3⟩ := e3 3 (by decide)
    have eg : gOrd p z = gArrive z (p 66) (p 67) (p 68) (p 69) := by rw [gOrd, if_pos e1]
    have d0 : ms 930 = nI a0 := u0.symm.trans c0
    have d1 : ms 931 = nI a1 := u1.symm.trans c1
    have d2 : ms 932 = nI a2 := u2.symm.trans c2
    have d3 : ms 933 = nI a3 := u3.symm.trans c3
    have g0 : p 66 = ms 930 := u0
    have g1 : p 67 = ms 931 := u1
    have g2 : p 68 = ms 932 := u2
    have g3 : p 69 = ms 933 := u3
    rw [eg, g0, g1, g2, g3]
    have hsum : ¬ ms 930 + ms 931 + ms 932 + ms 933 = 0 := by
      rw [d0, d1, d2, d3, nI_add, nI_add, nI_add]
      refine nI_ne0 ?_ (by omega)
      obtain ⟨g, hg1, hg2⟩ := e4
      rcases (show g = 0 ∨ g = 1 ∨ g = 2 ∨ g = 3 by omega) with rfl | rfl | rfl | rfl
      · rw [c0] at hg2
        have : a0 ≠ 0 := fun q => hg2 (by rw [q]; rfl)
        omega
      · rw [c1] at hg2
        have : a1 ≠ 0 := fun q => hg2 (by rw [q]; rfl)
        omega
      · rw [c2] at hg2
        have : a2 ≠ 0 := fun q => hg2 (by rw [q]; rfl)
        omega
      · rw [c3] at hg2
        have : a3 ≠ 0 := fun q => hg2 (by rw [q]; rfl)
        omega
    have hcond : ¬ (inB (ms 930) 0 400 = false ∨ inB (ms 931) 0 400 = false ∨ inB (ms 932) 0 400 = false ∨ inB (ms 933) 0 400 = false ∨ ms 930 + ms 931 + ms 932 + ms 933 = 0) := by
      rintro (q | q | q | q | q)
      · rw [d0, inB_u b0] at q; cases q
      · rw [d1, inB_u b1] at q; cases q
      · rw [d2, inB_u b2] at q; cases q
      · rw [d3, inB_u b3] at q; cases q
      · exact hsum q
    obtain ⟨wn, -, hwn5, h12⟩ := rgN (lo := 0) (hi := 5) (by decide) (by decide) hv.2.2.1
    have etw : tn (ms 12) = wn := by rw [h12, tn, nI_clamp (by omega)]
    have e5 : ms 12 = 5 ↔ wn = 5 := by rw [h12]; exact nI_eq (b := 5) (by omega) (by decide)
    have e5' : ms 12 < 5 ↔ wn < 5 := by rw [h12]; exact nI_ltI (b := 5) (by omega) (by decide)
    have hee : eArr ms (ms 930) (ms 931) (ms 932) (ms 933) = 0 ↔ wn < 5 := by
      unfold eArr
      rw [if_neg hcond]
      by_cases q : ms 12 = 5
      · rw [if_pos q]
        exact ⟨fun w => absurd w (by decide), fun w => by have := e5.mp q; omega⟩
      · rw [if_neg q]
        exact ⟨fun _ => by have : wn ≠ 5 := fun w => q (e5.mpr w); omega, fun _ => rfl⟩
    refine step_of (hS.arrive hv (ms 930) (ms 931) (ms 932) (ms 933)) hS hJ ?_ (by rw [mAct, if_pos e2]) (fun e0 => ?_)
    · rw [hee, mCan, if_pos e2, decide_eq_true_eq]; exact e5'
    · have hw := hee.mp e0
      rw [etw]
      have ho : ∀ j, K6 j → (aArr ms wn (ms 930) (ms 931) (ms 932) (ms 933)).2 j = ms j := fun j hj => by
        unfold aArr
        simp only [tz, K6] at *
        repeat rw [upd_n (by omega)]
      exact kp_of hJ (fun j hj => ho j (by simp only [K6]; omega)) (hcb.cg (fun i hi => ⟨ho _ (by simp only [K6, hz]; omega), ho _ (by simp only [K6, hz]; omega)⟩))
  · have hk : ms 945 = nI k := e3.symm.trans k3
    have eg : gOrd p z = gPass z (p 65) := by simp [gOrd, e1]
    rw [eg, e3]
    refine ⟨Or.inr (Or.inr (Or.inr (Or.inr ⟨e2, k, k2, hk⟩))), ?_⟩
    have hin : ¬ inB (ms 945) 1 48 = false := by
      rw [hk]
      unfold inB
      rw [decide_eq_true (show (1 : Int32) ≤ nI k from nI_le (a := 1) (by omega) (by omega)), decide_eq_true (show nI k ≤ (48 : Int32) from nI_le (b := 48) (by omega) (by decide))]
      decide
    refine step_of (hS.pass hv (ms 945)) hS hJ ?_ (by simp [mAct, e2]) (fun e0 => ?_)
    · have hm : mCan ms = decide (ms 6 + ms 945 ≤ 9999) := by simp [mCan, e2]
      rw [hm, decide_eq_true_eq]
      unfold ePas
      rw [if_neg hin]
      by_cases q : 9999 < ms 6 + ms 945
      · rw [if_pos q]
        exact ⟨fun w => absurd w (Int32.not_le.mpr q), fun w => absurd w (by decide)⟩
      · rw [if_neg q]
        exact ⟨fun _ => rfl, fun _ => Int32.not_lt.mp q⟩
    · obtain ⟨hn, h1, h2⟩ := hJ.2.2.1
      have etk : tn (ms 945) = k := by rw [hk, tn, nI_clamp (by omega)]
      refine ⟨fun j hj => gHours_o (by omega) _, ⟨hn + k, ?_, by rw [etk]; exact gHours_6 h2 k⟩, hcb.hours _⟩
      unfold ePas at e0
      rw [if_neg hin] at e0
      by_cases c : 9999 < ms 6 + ms 945
      · rw [if_pos c] at e0; exact absurd e0 (by decide)
      · rw [h2, hk, nI_add, show (9999 : Int32) = nI 9999 from rfl] at c
        rcases Nat.lt_or_ge 9999 (hn + k) with q | q
        · exact absurd (nI_lt q (by omega)) c
        · exact q
  · have hg : isG (ms 946) = true := by rw [← e3]; exact e4
    have h4 := isG_tn hg
    rw [e3] at e4
    rcases e1 with q61 | q45 | q126
    · have e2' : ms 944 = 61 := e2.trans q61
      obtain ⟨e6, e7⟩ := e5 q61
      have eg : gOrd p z = gConnect z (ms 946) (ms 947) := by simp [gOrd, q61, e3, e6]
      have hg7 : isG (ms 947) = true := by rw [← e6]; exact e7
      rw [eg]
      refine ⟨Or.inr (Or.inl ⟨e2', hg, hg7⟩), ?_⟩
      have hm : mCan ms = kCon ms (tn (ms 946)) := by simp [mCan, e2']
      have hne : ¬ (isG (ms 946) = false ∨ isG (ms 947) = false) := by rw [hg, hg7]; decide
      have hee : kCon ms (tn (ms 946)) = true ↔ eCon ms (ms 946) (ms 947) = 0 := by
        unfold eCon
        rw [if_neg hne]
        cases kCon ms (tn (ms 946))
        · rw [if_pos rfl]; decide
        · rw [if_neg (by decide)]; decide
      refine step_of (hS.connect hv (ms 946) (ms 947)) hS hJ (by rw [hm]; exact hee) (by simp [mAct, e2']) (fun e0 => kp_of hJ (fun j hj => ?_) ?_)
      · show upd _ (hz (tn (ms 946)) 2) _ j = _
        rw [upd_n (hz_no hg (by decide) hj)]
      · intro i hi hg2
        show upd _ (hz (tn (ms 946)) 2) (ms 947) (hz i 3) = 0
        rw [upd_n (by simp only [hz]; omega)]
        by_cases e : i = tn (ms 946)
        · have hk := hee.mpr e0
          unfold kCon at hk
          simp only [Bool.and_eq_true, decide_eq_true_eq] at hk
          rw [e]
          exact hk.1.1.2
        · have hg3 : isG (upd ms (hz (tn (ms 946)) 2) (ms 947) (hz i 2)) = true := hg2
          rw [upd_n (by simp only [hz]; omega)] at hg3
          exact hcb i hi hg3
    · have e2' : ms 944 = 45 := e2.trans q45
      have eg : gOrd p z = gDisconnect z (ms 946) := by simp [gOrd, q45, e3]
      rw [eg]
      refine ⟨Or.inr (Or.inr (Or.inl ⟨e2', hg⟩)), ?_⟩
      have hm : mCan ms = isG (ms (hz (tn (ms 946)) 2)) := by simp [mCan, e2']
      have hee : isG (ms (hz (tn (ms 946)) 2)) = true ↔ eDis ms (ms 946) = 0 := by
        unfold eDis
        rw [if_neg (by rw [hg]; decide)]
        cases isG (ms (hz (tn (ms 946)) 2))
        · rw [if_pos rfl]; decide
        · rw [if_neg (by decide)]; decide
      refine step_of (hS.disconnect hv (ms 946)) hS hJ (by rw [hm]; exact hee) (by simp [mAct, e2']) (fun e0 => kp_of hJ (fun j hj => ?_) ?_)
      · show upd _ (hz (tn (ms 946)) 2) _ j = _
        rw [upd_n (hz_no hg (by decide) hj)]
      · intro i hi hg2
        have hg3 : isG (upd ms (hz (tn (ms 946)) 2) (-100006) (hz i 2)) = true := hg2
        show upd _ (hz (tn (ms 946)) 2) _ (hz i 3) = 0
        rw [upd_n (by simp only [hz]; omega)]
        by_cases e : i = tn (ms 946)
        · rw [e, upd_s] at hg3; exact absurd hg3 (by decide)
        · rw [upd_n (by simp only [hz]; omega)] at hg3
          exact hcb i hi hg3
    · have e2' : ms 944 = 126 := e2.trans q126
      have eg : gOrd p z = gFlush z (ms 946) := by simp [gOrd, q126, e3]
      rw [eg]
      refine ⟨Or.inr (Or.inr (Or.inr (Or.inl ⟨e2', hg⟩))), ?_⟩
      have hm : mCan ms = kFlu ms (tn (ms 946)) := by simp [mCan, e2']
      have hee : kFlu ms (tn (ms 946)) = true ↔ eFlu ms (ms 946) = 0 := by
        unfold eFlu
        rw [if_neg (by rw [hg]; decide)]
        cases kFlu ms (tn (ms 946))
        · rw [if_pos rfl]; decide
        · rw [if_neg (by decide)]; decide
      refine step_of (hS.flush hv (ms 946)) hS hJ (by rw [hm]; exact hee) (by simp [mAct, e2']) (fun e0 => ?_)
      have hf := hee.mpr e0
      have hG : isG (ms (hz (tn (ms 946)) 1)) = true := by
        unfold kFlu at hf
        simp only [Bool.and_eq_true] at hf
        exact hf.2
      have h5 := isG_tn hG
      have ho : ∀ j, K6 j → (aFlu ms (tn (ms 946))).2 j = ms j := fun j hj => by
        show upd (upd (upd _ (14 + tn (ms (hz (tn (ms 946)) 1))) _) (18 + tn (ms (hz (tn (ms 946)) 1))) _) (hz (tn (ms 946)) 1) _ j = _
        have h7 : j ≠ 14 + tn (ms (hz (tn (ms 946)) 1)) := by simp only [tn, K6] at *; omega
        have h8 : j ≠ 18 + tn (ms (hz (tn (ms 946)) 1)) := by simp only [tn, K6] at *; omega
        rw [upd_n (hz_n6 hg (by decide) hj), upd_n h8, upd_n h7]
      exact kp_of hJ (fun j hj => ho j (by simp only [K6]; omega)) (hcb.cg (fun i hi => ⟨ho _ (by simp only [K6, hz]; omega), ho _ (by simp only [K6, hz]; omega)⟩))
theorem fEq_up {p m : xV} {v : Int32} (h : fEq p m) : fEq p (upd m 942 v) := by
  rcases h with ⟨e1, e2, e3, e4⟩ | ⟨e1, e2, e3, e4⟩ | ⟨e1, e2, e3, e4, e5⟩
  · exact Or.inl ⟨e1, by rw [upd_n (by decide)]; exact e2, fun g hg => by rw [upd_n (by omega)]; exact e3 g hg, e4⟩
  · exact Or.inr (Or.inl ⟨e1, by rw [upd_n (by decide)]; exact e2, by rw [upd_n (by decide)]; exact e3, e4⟩)
  · exact Or.inr (Or.inr ⟨e1, by rw [upd_n (by decide)]; exact e2, by rw [upd_n (by decide)]; exact e3, e4, fun q => ⟨by rw [upd_n (by decide)]; exact (e5 q).1, (e5 q).2⟩⟩)
theorem run_rel {n : Nat} {q0 : xV} (hn : n ≤ 60) : ∀ (d a : Nat) (p z m : xV), p 60 = nI n → p 61 = nI a → m 941 = nI n → m 942 = nI a → a ≤ n + 1 → (∀ j, ch p n j = ch q0 n j) → (∀ j, tM m n j = ch q0 n j) → m 943 = 0 → Sim z m → mJ m → (a < n → OkC n q0 d a) → n + 1 ≤ a + d →
    mGo n d a m ∧ ∀ k, ∃ k', k' ≤ k + d ∧ (oRun n d a p z (nI k)).1 = nI k' ∧ (mRunL n d a m (nI k)).1 = nI k' ∧ Sim (oRun n d a p z (nI k)).2.2 (mRunL n d a m (nI k)).2 ∧ mJ (mRunL n d a m (nI k)).2 ∧ (∀ j, 84 ≤ j → (j < 930 ∨ j = 940 ∨ j = 941) → (mRunL n d a m (nI k)).2 j = m j) ∧ ∀ j, j < 60 → (oRun n d a p z (nI k)).2.1 j = p j := by
  intro d
  induction d with
  | zero =>
    intro a p z m h60 h61 h941 h942 han hT hT2 h943 hS hJ hok had
    exact ⟨trivial, fun k => ⟨k, Nat.le_refl _, rfl, rfl, hS, hJ, fun _ _ _ => rfl, fun _ _ => rfl⟩⟩
  | succ d ih =>
    intro a p z m h60 h61 h941 h942 han hT hT2 h943 hS hJ hok had
    rcases Nat.lt_or_ge a n with hlt | hge
    · have hp : pat p n a := ⟨h60, h61, hn, by omega⟩
      have hm : patM m n a := ⟨h941, h942, hn, by omega⟩
      obtain ⟨r1, r2⟩ := ord_rel hp hm hT hT2 h943
      obtain ⟨g1, g2⟩ := pOrd_pat hp
      obtain ⟨b0, hb1, hb2, hb3, hb4⟩ := mOrd_pat hm
      obtain ⟨k1, k2⟩ := pOrd_cg (a := a) hn hT
      obtain ⟨o1, o2⟩ := hok hlt
      rw [← k1] at o1
      rw [← k2] at o2
      have hbn : (pOrd p n a).2.1 ≤ n := g1.2.2.2
      have eb : b0 = (pOrd p n a).2.1 := (nI_eq (by omega) (by omega)).mp (hb3.2.1.symm.trans r1)
      subst eb
      rcases r2 with ⟨-, w1, w2⟩ | ⟨w1, -⟩
      rotate_left
      · rw [o1] at w1; cases w1
      have hnx : mNx m n a = (pOrd p n a).2.1 := by rw [mNx, r1, tn, nI_clamp (by omega)]
      have hchp : ∀ j, ch (pOrd p n a).2.2 n j = ch q0 n j := fun j => (ch_of hn (fun i hi => pOrd_o (by omega)) j).trans (hT j)
      obtain ⟨ms, hms⟩ : ∃ ms, ms = mStp m n a := ⟨_, rfl⟩
      have hms2 : ms = upd (mOrd m n a) 942 (nI ((pOrd p n a).2.1 + 1)) := by rw [hms, mStp, hnx]
      have hlow : ∀ j, j < 84 → ms j = m j := fun j hj => by rw [hms2, upd_n (by omega), mOrd_o (by omega)]
      have hSm : Sim z ms := hS.cg hlow
      have hJm : mJ ms := hJ.cg hlow
      obtain ⟨s1, s2, s3, s4⟩ := ord_step hSm hJm (by rw [hms2]; exact fEq_up w2)
      have hmo : ∀ j, 84 ≤ j → mOrdD ms j = ms j := fun j hj => mOrdD_o hJm.inv s1 hj
      have m941 : mOrdD ms 941 = nI n := by rw [hmo _ (by decide), hms2, upd_n (by decide)]; exact hb3.1
      have m942 : mOrdD ms 942 = nI ((pOrd p n a).2.1 + 1) := by rw [hmo _ (by decide), hms2, upd_s]
      have m943 : mOrdD ms 943 = 0 := by rw [hmo _ (by decide), hms2, upd_n (by decide)]; exact w1
      have mT : ∀ j, tM (mOrdD ms) n j = ch q0 n j := fun j => by
        have e1 : tM (mOrdD ms) n j = tM ms n j := by
          unfold tM
          by_cases c : j < n
          · rw [if_pos c, if_pos c, hmo _ (by omega)]
          · rw [if_neg c, if_neg c]
        rw [e1, hms2, tM_up hn (by decide), hb4]
        exact hT2 j
      obtain ⟨i1, i2⟩ := ih ((pOrd p n a).2.1 + 1) (upd (pOrd p n a).2.2 61 (nI ((pOrd p n a).2.1 + 1))) (gOrd (pOrd p n a).2.2 z).2 (mOrdD ms) (by rw [upd_n (by decide)]; exact g1.1) upd_s m941 m942 (by omega) (fun j => by rw [ch_up hn (by decide)]; exact hchp j) mT m943 s3 s4 (fun q => o2.resolve_left (by omega)) (by omega)
      refine ⟨?_, fun k => ?_⟩
      · rw [mGo, ← hms, hnx]
        exact fun _ => ⟨hJm.inv, s1, i1⟩
      · have ec : (if isErr (gOrd (pOrd p n a).2.2 z).1 = true then nI k else nI k + 1) = nI k + bI (mCan ms) := by
          rw [s2]
          cases mCan ms
          · rw [if_pos (show (!false) = true from rfl)]; exact (Int32.add_zero _).symm
          · rw [if_neg (show ¬ (!true) = true by decide)]; rfl
        have ek : ∃ k1, k1 ≤ k + 1 ∧ nI k + bI (mCan ms) = nI k1 := by
          cases mCan ms
          · exact ⟨k, by omega, Int32.add_zero _⟩
          · exact ⟨k + 1, by omega, nI_1 k⟩
        obtain ⟨kk, hkk, ekk⟩ := ek
        obtain ⟨k', j1, j2, j3, j4, j5, j6, j7⟩ := i2 kk
        rw [oRun, if_pos hlt, mRunL, if_pos hlt, ← hms, hnx]
        dsimp only
        rw [ec, ekk]
        refine ⟨k', by omega, j2, j3, j4, j5, fun j hj1 hj2 => ?_, fun j hj => ?_⟩
        · rw [j6 j hj1 hj2, hmo j hj1, hms2, upd_n (by omega), mOrd_o (by omega)]
        · rw [j7 j hj, upd_n (by omega), pOrd_o (by omega)]
    · have hge' : ¬ a < n := by omega
      refine ⟨by rw [mGo]; exact fun q => absurd q hge', fun k => ?_⟩
      rw [oRun, if_neg hge', mRunL, if_neg hge']
      exact ⟨k, by omega, rfl, rfl, hS, hJ, fun _ _ _ => rfl, fun _ _ => rfl⟩
section XRUN
variable {rs : xR} {p : xV} {un : Nat} {sv : Nat → Int32} {m : xV}
theorem SimA.txt (h : SimA rs p un sv m) {n : Nat} (hn : n ≤ 60) (h941 : m 941 = nI n) (j : Nat) : tM m n j = ch p n j := by
  obtain ⟨n', f1, f2, f3, f4⟩ := h.2.2.2.2
  obtain rfl : n' = n := (nI_eq (by omega) (by omega)).mp (f3.symm.trans h941)
  unfold tM ch
  by_cases c : j < n'
  · rw [if_pos c, if_pos c, f4 j c]
  · rw [if_neg c, if_neg c]
theorem pFault_o {n : Nat} {j : Nat} (hj : j < 61) : ∀ (d a : Nat) (p : xV), (pFault n d a p).2 j = p j := by
  intro d
  induction d with
  | zero => intro a p; rfl
  | succ d ih =>
    intro a p
    rw [pFault]
    split
    · exact pOrd_o hj
    split
    · exact pOrd_o hj
    split
    · rw [ih, upd_n (by omega)]; exact pOrd_o hj
    · exact pOrd_o hj
theorem SimA.fault (h : SimA rs p un sv m) {n : Nat} (hn : n ≤ 60) (h60 : p 60 = nI n) (h941 : m 941 = nI n) : (oQ p n).1 = (mFF m n).1 ∧ SimA rs (oQ p n).2 un sv (mFF m n).2 ∧ ((mFF m n).1 = -100006 → (mFF m n).2 943 = 0 ∧ OkC n p (n + 1) 0) := by
  have hf := fault_rel (q := p) hn (n + 1) 0 (upd p 61 (nI 0)) (upd (upd m 942 0) 943 0) ⟨by rw [upd_n (by decide)]; exact h60, upd_s, hn, Nat.zero_le _⟩ (patM_up (m := upd m 942 0) ⟨by rw [upd_n (by decide)]; exact h941, upd_s, hn, Nat.zero_le _⟩ (by decide) (by decide)) (fun j => ch_up hn (by decide)) (fun j => by rw [tM_up hn (by decide), tM_up hn (by decide)]; exact h.txt hn h941 j) upd_s (by omega)
  refine ⟨hf.1, (h.mcg (fun k hk => mFF_o (by omega))).pcg (fun k hk => ?_), hf.2⟩
  unfold oQ
  rw [pFault_o hk, upd_n (by omega)]
end XRUN
