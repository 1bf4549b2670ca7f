/-! an hour of the model's -/
theorem tear_n {z : xV} (h : ¬ z 7 = 1) (h7 : xz (z 7)) : z = gTear z := by
  unfold gTear
  rw [if_pos (Or.inl (h7.resolve_right h))]
theorem iabs_toInt {c : Int32} (h1 : -1000 ≤ c.toInt) (h2 : c.toInt ≤ 1000) : (iabs c).toInt = (if c.toInt < 0 then -c.toInt else c.toInt) := by
  unfold iabs
  have e0 : (0 : Int32).toInt = 0 := rfl
  by_cases h : 0 ≤ c
  · rw [if_pos h]
    rw [i_le, e0] at h
    rw [if_neg (by omega)]
  · rw [if_neg h]
    rw [i_le, e0] at h
    rw [if_pos (by omega), i_sub (by rw [e0]; omega) (by rw [e0]; omega), e0]
    omega
theorem change_b {z : xV} (h : IV z) (a b : Int32) : -80 ≤ (cTide z a - cTide z b).toInt ∧ (cTide z a - cTide z b).toInt ≤ 80 := by
  obtain ⟨a1, a2⟩ := tide_b h.1.2.1 a
  obtain ⟨b1, b2⟩ := tide_b h.1.2.1 b
  rw [i_sub (by omega) (by omega)]
  omega
theorem tear_k {z : xV} (h : IV z) (h1 : ¬ 15 < cTide z (z 6) - cTide z (z 6 - 1)) (h2 : -15 ≤ cTide z (z 6) - cTide z (z 6 - 1)) : z = gTear z := by
  unfold gTear
  rw [if_pos]
  refine Or.inr ?_
  have hb := change_b h (z 6) (z 6 - 1)
  generalize cTide z (z 6) - cTide z (z 6 - 1) = c at *
  rw [i_lt] at h1
  rw [i_le] at h2 ⊢
  rw [iabs_toInt (by omega) (by omega)]
  have e15 : (15 : Int32).toInt = 15 := rfl
  have en : (-15 : Int32).toInt = -15 := rfl
  rw [e15] at h1 ⊢
  rw [en] at h2
  split <;> omega
theorem tear_y {z : xV} (h : IV z) (h7 : z 7 = 1) (h1 : 15 < cTide z (z 6) - cTide z (z 6 - 1) ∨ ¬ -15 ≤ cTide z (z 6) - cTide z (z 6 - 1)) : upd (upd (upd z 7 0) 9 (upd z 7 0 9 + upd z 7 0 8)) 8 0 = gTear z := by
  unfold gTear
  rw [if_neg]
  rintro (q | q)
  · rw [h7] at q; revert q; decide
  have hb := change_b h (z 6) (z 6 - 1)
  generalize cTide z (z 6) - cTide z (z 6 - 1) = c at *
  rw [i_lt, i_le] at h1
  rw [i_le, iabs_toInt (by omega) (by omega)] at q
  have e15 : (15 : Int32).toInt = 15 := rfl
  have en : (-15 : Int32).toInt = -15 := rfl
  rw [e15] at h1 q
  rw [en] at h1
  split at q <;> omega
theorem gBursts_iv {z : xV} (h : IV z) : gShorts z 4 = gBursts z := by
  unfold gBursts
  split
  · rename_i h0
    have hn : ∀ i, i < 4 → isG (z (hz i 2)) = false := by
      intro i hi
      cases q : isG (z (hz i 2))
      · rfl
      · have := (h.2.2.2.2.2.2.1 i hi).2.2.2.2 q
        rw [h0] at this; revert this; decide
    have hs : ∀ k, k ≤ 4 → gShorts z k = z := by
      intro k
      induction k with
      | zero => intro _; rfl
      | succ k ih =>
        intro hk
        rw [gShorts, ih (by omega)]
        unfold gShort
        rw [if_pos (Or.inl (hn k (by omega)))]
    exact hs 4 (by decide)
  · rfl
theorem moveU_y {z : xV} (h13 : z 13 = 1) (hf : cFloats z (cDraught z 0) (z 6) = true) (h7 : z 7 = 1) : gMoves z 4 = gMoveU z := by
  unfold gMoveU
  rw [if_neg]
  rintro (q | q | q)
  · rw [h13] at q; revert q; decide
  · rw [h7] at q; revert q; decide
  · rw [hf] at q; cases q
theorem moveU_n {z : xV} (h : IV z) (hc : ¬ z 13 = 1 ∨ cFloats z (cDraught z 0) (z 6) = false ∨ ¬ z 7 = 1) : gMoveU z = (0, z) := by
  unfold gMoveU
  rw [if_pos]
  rcases hc with q | q | q
  · exact Or.inl (h.2.2.2.1.resolve_right q)
  · exact Or.inr (Or.inr q)
  · exact Or.inr (Or.inl (h.2.2.2.2.1.resolve_right q))
def mLate (z : xV) (k : Nat) : Bool := mIsT z (nI k) && decide (z 4 < z 6 - z (tz k 4))
def mCost (z : xV) : Nat → xV
  | 0 => z
  | k + 1 => upd (mCost z k) 11 (mCost z k 11 + (if mLate (mCost z k) k = true then mCost z k 5 else 0))
theorem mCost_o {z : xV} {j : Nat} (hj : j ≠ 11) : ∀ k, mCost z k j = z j := by
  intro k
  induction k with
  | zero => rfl
  | succ k ih => rw [mCost, upd_n hj]; exact ih
theorem mIsT_c {z : xV} (h : IV z) {k : Nat} (hk : k < 6) : decide (¬ cIsT z (nI k) = 0) = mIsT z (nI k) := by
  unfold cIsT mIsT
  by_cases h0 : nI k = 0
  · rw [if_pos h0, if_pos h0]
    rcases h.2.2.2.1 with q | q <;> (rw [q]; decide)
  · rw [if_neg h0, if_neg h0]
    have hk0 : 0 < k := by
      rcases Nat.eq_zero_or_pos k with q | q
      · exact absurd (by rw [q]; rfl) h0
      · exact q
    have e1 : (0 : Int32) < nI k := nI_lt hk0 (by omega)
    have e2 : (1 : Int32) ≤ nI k := nI_le hk0 (by omega)
    have e3 : nI k < 6 := nI_lt hk (by decide)
    simp only [e1, e2, e3, decide_true, Bool.true_and, Bool.and_true]
    rw [bI_ne]
theorem mLate_c {z : xV} (h : IV z) {k : Nat} (hk : k < 6) : mLate z k = cLateC z k := by
  unfold mLate cLateC
  rw [mIsT_c h hk]
theorem mCost_eq {z : xV} (h : IV z) {wn : Nat} (hw : wn ≤ 5) (h12 : z 12 = nI wn) : mCost z (wn + 1) = upd z 11 (z 11 + cLateN z 6 * z 5) := by
  have key : ∀ k, k ≤ 6 → mCost z k = upd z 11 (z 11 + cLateN z k * z 5) := by
    intro k
    induction k with
    | zero =>
      intro _
      refine upd_id ?_
      show z 11 = z 11 + 0 * z 5
      rw [Int32.zero_mul, Int32.add_zero]
    | succ k ih =>
      intro hk
      have hc : mLate (mCost z k) k = cLateC z k := by
        rw [← mLate_c h (by omega)]
        unfold mLate mIsT
        rw [mCost_o (by decide), mCost_o (by decide), mCost_o (by decide), mCost_o (by decide), mCost_o (by simp only [tz]; omega)]
      rw [mCost, hc, mCost_o (j := 5) (by decide), ih (by omega), upd_upd, upd_s]
      show upd z 11 _ = upd z 11 (z 11 + (if cLateC z k = true then cLateN z k + 1 else cLateN z k) * z 5)
      by_cases q : cLateC z k = true
      · rw [if_pos q, if_pos q, Int32.add_mul, Int32.one_mul, Int32.add_assoc]
      · rw [if_neg q, if_neg q, Int32.add_zero]
  have tail : ∀ d, wn + 1 + d ≤ 6 → cLateN z (wn + 1 + d) = cLateN z (wn + 1) := by
    intro d
    induction d with
    | zero => intro _; rfl
    | succ d ih =>
      intro hd
      have hn : ¬ cLateC z (wn + 1 + d) = true := by
        rw [← mLate_c h (by omega)]
        unfold mLate mIsT
        have h0 : ¬ nI (wn + 1 + d) = 0 := nI_ne0 (by omega) (by omega)
        have h1 : ¬ nI (wn + 1 + d) ≤ z 12 := by rw [h12]; exact nI_ge (by omega) (by omega)
        rw [if_neg h0, decide_eq_false h1]
        simp
      show (if cLateC z (wn + 1 + d) = true then cLateN z (wn + 1 + d) + 1 else cLateN z (wn + 1 + d)) = _
      rw [if_neg hn]
      exact ih (by omega)
  rw [key _ (by omega), show cLateN z 6 = cLateN z (wn + 1) from by
    have := tail (5 - wn) (by omega)
    rw [← this, show wn + 1 + (5 - wn) = 6 by omega]]
set_option maxHeartbeats 4000000 in
set_option maxRecDepth 100000 in
theorem c_X5_hour (l : Launch) (U : xU) (μ0 : xH) (ma : Nat → Nat) (m : xV) (hM0 : FRep U μ0 ma 5 FM m) (hiv : IV m) (h80 : ∀ i, i < 4 → m (80 + i) = 0) (hn : Nat) (h6 : m 6 = nI hn) (hb : hn + 1 < 2 ^ 31) : CtFR l U yX5_hour cX5_hour 6 (some .int) ({ frames := 4, cells := 0, slots := 0, locals := 88 } : Room) [.ref (ma 0)] μ0 ma 5 FM (gHour m).1 (gHour m).2 := by
  refine Ct.of [some (.ref (ma 0)), none, none, none, none, none] (by decide +kernel) rfl (Nat.le_of_ble_eq_true rfl) (fun K Q X hnm hQ => ?_)
  obtain ⟨μ, hμ, hM⟩ : ∃ μ : xH, μ0 = μ ∧ FR U μ0 μ ma 5 FM m := ⟨μ0, rfl, FR.rf hM0⟩
  refine aw_mu hμ ?_
  refine aw_aload_n X dX5_hour_0 rfl ?_
  refine aw_cVFF (As := []) X hM (c_X5_tideNow (kl K) U _ ma _ hM.1 _ h6 (by omega)) s_X5_52 k_X5_tideNow (by decide) ⟨rfl, rfl⟩ ⟨Nat.zero_le _, Nat.zero_le _⟩ rfl (by exact Nat.le_of_ble_eq_true rfl) rfl dX5_hour_1 ?_
  refine aw_istore_n X dX5_hour_4 rfl (by decide) ?_
  refine aw_aload_n X dX5_hour_5 rfl ?_
  refine aw_fgetA X hM 0 (t := 0) (b := 0) (n := 80) rfl f_X5_7 dX5_hour_6 ?_
  refine aw_bipush X (6) dX5_hour_9 rfl ?_
  refine aw_dup2 X dX5_hour_11 rfl rfl ?_
  refine aw_fiald X hM 0 (b := 0) (n := 80) rfl 6 (xin_d rfl) (by decide) dX5_hour_12 ?_
  refine aw_iconst X (1) dX5_hour_13 rfl ?_
  refine aw_iadd X dX5_hour_14 ?_
  refine aw_fiast X FM_a hM 0 (b := 0) (n := 80) rfl 6 (xin_d rfl) (by decide) dX5_hour_15 (fun μ z_1 ez_1 hM => ?_)
  have h61 : z_1 6 = nI (hn + 1) := by rw [ez_1, upd_s, h6, nI_1]
  have hiv1 : IV z_1 := by rw [ez_1]; exact hiv.up (VC.free (Or.inl rfl))
  have h801 : ∀ i, i < 4 → z_1 (80 + i) = 0 := fun i hi => by rw [ez_1, upd_n (by omega)]; exact h80 i hi
  have hch : cTide z_1 (z_1 6) - cTide m (m 6) = cTide z_1 (z_1 6) - cTide z_1 (z_1 6 - 1) := by
    rw [h61, nI_pred]
    unfold cTide
    rw [ez_1, upd_n (show 1 ≠ 6 by decide), h6]
  obtain ⟨wn, -, hwn, h121⟩ := rgN (lo := 0) (hi := 5) (by decide) (by decide) hiv1.2.2.1
  refine aw_aload_n X dX5_hour_16 rfl ?_
  refine aw_cVFF (As := []) X hM (c_X5_tideNow (kl K) U _ ma _ hM.1 _ h61 (by omega)) s_X5_52 k_X5_tideNow (by decide) ⟨rfl, rfl⟩ ⟨Nat.zero_le _, Nat.zero_le _⟩ rfl (by exact Nat.le_of_ble_eq_true rfl) rfl dX5_hour_17 ?_
  refine aw_iload_n X dX5_hour_20 rfl ?_
  refine aw_isub X dX5_hour_21 ?_
  refine aw_top (cTide z_1 (z_1 6) - cTide z_1 (z_1 6 - 1)) hch ?_
  refine aw_istore_n X dX5_hour_22 rfl (by decide) ?_
  have j79 : ∀ (μ : xH) (zj79 : xV), zj79 = gTear z_1 → FR U μ0 μ ma 5 FM zj79 → AW U K 6 0 0 Q μ 79 [some (.ref (ma 0)), none, none, none, none, none] [] := by
    intro μ zj79 ezj79 hM
    have hivj79 : IV zj79 := by rw [ezj79]; exact hiv1.tear
    have hoj79 : ∀ j, j = 6 ∨ j = 12 ∨ 80 ≤ j → zj79 j = z_1 j := fun j hj => by rw [ezj79]; exact gTear_o (by omega)
    have h6j79 : zj79 6 = nI (hn + 1) := by rw [hoj79 6 (by omega)]; exact h61
    have h12j79 : zj79 12 = nI wn := by rw [hoj79 12 (by omega)]; exact h121
    have h80j79 : ∀ i, i < 4 → zj79 (80 + i) = 0 := fun i hi => by rw [hoj79 _ (by omega)]; exact h801 i hi
    have j119 : ∀ (μ : xH) (zj119 : xV), zj119 = gBursts zj79 → FR U μ0 μ ma 5 FM zj119 → AW U K 6 0 0 Q μ 119 [some (.ref (ma 0)), none, none, none, none, none] [] := by
      intro μ zj119 ezj119 hM
      have hivj119 : IV zj119 := by rw [ezj119]; exact hivj79.bursts
      have hoj119 : ∀ j, j = 6 ∨ j = 12 ∨ 80 ≤ j → zj119 j = zj79 j := fun j hj => by rw [ezj119]; exact gBursts_o (by omega)
      have h6j119 : zj119 6 = nI (hn + 1) := by rw [hoj119 6 (by omega)]; exact h6j79
      have h12j119 : zj119 12 = nI wn := by rw [hoj119 12 (by omega)]; exact h12j79
      have h80j119 : ∀ i, i < 4 → zj119 (80 + i) = 0 := fun i hi => by rw [hoj119 _ (by omega)]; exact h80j79 i hi
      have j207 : ∀ (μ : xH) (zj207 : xV), zj207 = (gMoveU zj119).2 → FR U μ0 μ ma 5 FM zj207 → AW U K 6 0 0 Q μ 207 [some (.ref (ma 0)), none, none, some (.int (gMoveU zj119).1), none, none] [] := by
        intro μ zj207 ezj207 hM
        have hivj207 : IV zj207 := by rw [ezj207]; exact hivj119.moveU.1
        have hoj207 : ∀ j, j = 6 ∨ j = 12 ∨ 80 ≤ j → zj207 j = zj119 j := fun j hj => by rw [ezj207]; exact gMoveU_o (by omega)
        have h6j207 : zj207 6 = nI (hn + 1) := by rw [hoj207 6 (by omega)]; exact h6j119
        have h12j207 : zj207 12 = nI wn := by rw [hoj207 12 (by omega)]; exact h12j119
        have h80j207 : ∀ i, i < 4 → zj207 (80 + i) = 0 := fun i hi => by rw [hoj207 _ (by omega)]; exact h80j119 i hi
        refine aw_iconst X (0) dX5_hour_207 rfl ?_
        refine aw_istore X dX5_hour_208 rfl (by decide) ?_
        have hw12 : ∀ k, mCost zj207 k 12 = nI wn := fun k => by rw [mCost_o (by decide)]; exact h12j207
        have loop : ∀ (d k : Nat) (μ : xH) (zc : xV) , k + d = wn + 1 → zc = mCost zj207 k → FR U μ0 μ ma 5 FM zc → AW U K 6 0 0 Q μ 210 [some (.ref (ma 0)), none, none, some (.int (gMoveU zj119).1), none, some (.int (nI k))] [] := by
          intro d
          induction d with
          | zero =>
            intro k μ zc hk ezc hM
            have hk : k = wn + 1 := by omega
            subst hk
            refine aw_iload X dX5_hour_210 rfl ?_
            refine aw_aload_n X dX5_hour_212 rfl ?_
            refine aw_fgetA X hM 0 (t := 0) (b := 0) (n := 80) rfl f_X5_7 dX5_hour_213 ?_
            refine aw_bipush X (12) dX5_hour_216 rfl ?_
            refine aw_fiald X hM 0 (b := 0) (n := 80) rfl 12 (xin_d rfl) (by decide) dX5_hour_218 ?_
            refine aw_icmp_gt_t (tgt := 281) X dX5_hour_219 (by decide) (by rw [ezc, hw12]; exact nI_lt (by omega) (by omega)) ?_
            refine aw_iload_n X dX5_hour_281 rfl ?_
            exact aw_iret X hQ dX5_hour_282 ⟨congrArg (fun q => some (Value.int q)) (by subst ezj119 ezj79 ez_1; rfl), hM.to (by rw [ezc, mCost_eq hivj207 hwn h12j207]; subst ezj207 ezj119 ezj79 ez_1; rfl)⟩
          | succ d ih =>
            intro k μ zc hk ezc hM
            refine aw_iload X dX5_hour_210 rfl ?_
            refine aw_aload_n X dX5_hour_212 rfl ?_
            refine aw_fgetA X hM 0 (t := 0) (b := 0) (n := 80) rfl f_X5_7 dX5_hour_213 ?_
            refine aw_bipush X (12) dX5_hour_216 rfl ?_
            refine aw_fiald X hM 0 (b := 0) (n := 80) rfl 12 (xin_d rfl) (by decide) dX5_hour_218 ?_
            refine aw_icmp_gt_f (tgt := 281) X dX5_hour_219 (by decide) (by rw [ezc, hw12]; exact nI_nlt (by omega) (by omega)) ?_
            refine aw_aload_n X dX5_hour_222 rfl ?_
            refine aw_fgetA X hM 0 (t := 0) (b := 0) (n := 80) rfl f_X5_7 dX5_hour_223 ?_
            refine aw_bipush X (11) dX5_hour_226 rfl ?_
            refine aw_dup2 X dX5_hour_228 rfl rfl ?_
            refine aw_fiald X hM 0 (b := 0) (n := 80) rfl 11 (xin_d rfl) (by decide) dX5_hour_229 ?_
            refine aw_aload_n X dX5_hour_230 rfl ?_
            refine aw_iload X dX5_hour_231 rfl ?_
            refine aw_cVFF (As := [.int _]) X hM (c_X5_isTanker (kl K) U _ ma _ hM.1 _ ) s_X5_90 k_X5_isTanker (by decide) ⟨rfl, rfl⟩ ⟨Nat.zero_le _, Nat.zero_le _⟩ rfl (by exact Nat.le_of_ble_eq_true rfl) rfl dX5_hour_233 ?_
            refine aw_b_eq (tgt := 272) X dX5_hour_236 (by decide) (fun c236_2 => ?_) (fun c236_2 => ?_)
            · skip
              refine aw_iconst X (0) dX5_hour_272 rfl ?_
              refine aw_iadd X dX5_hour_273 ?_
              refine aw_fiast X FM_a hM 0 (b := 0) (n := 80) rfl 11 (xin_d rfl) (by decide) dX5_hour_274 (fun μ z_3 ez_3 hM => ?_)
              refine aw_iinc X (1) dX5_hour_275 rfl rfl rfl (by decide) ?_
              refine aw_goto (tgt := 210) X dX5_hour_278 (by decide) ?_
              refine aw_sub [some (.ref (ma 0)), none, none, some (.int (gMoveU zj119).1), none, some (.int (nI (k + 1)))] ⟨rfl, rfl, congrArg (fun q => some (Value.int q)) (nI_1 k), trivial⟩ ?_
              exact ih (k + 1) μ _ (by omega) (by subst ezc ez_3; simp [mCost, mLate, c236_2]) hM
            · skip
              refine aw_aload_n X dX5_hour_239 rfl ?_
              refine aw_fgetA X hM 0 (t := 0) (b := 0) (n := 80) rfl f_X5_7 dX5_hour_240 ?_
              refine aw_bipush X (6) dX5_hour_243 rfl ?_
              refine aw_fiald X hM 0 (b := 0) (n := 80) rfl 6 (xin_d rfl) (by decide) dX5_hour_245 ?_
              refine aw_aload_n X dX5_hour_246 rfl ?_
              refine aw_iload X dX5_hour_247 rfl ?_
              refine aw_iconst X (4) dX5_hour_249 rfl ?_
              refine aw_cVFF (As := [.int _, .int _]) X hM (c_X5_ofTanker (kl K) U _ ma _ hM.1 _ _ (k) 4 rfl rfl (by omega) (by decide)) s_X5_45 k_X5_ofTanker (by decide) ⟨rfl, rfl⟩ ⟨Nat.zero_le _, Nat.zero_le _⟩ rfl (by exact Nat.le_of_ble_eq_true rfl) rfl dX5_hour_250 ?_
              refine aw_isub X dX5_hour_253 ?_
              refine aw_aload_n X dX5_hour_254 rfl ?_
              refine aw_fgetA X hM 0 (t := 0) (b := 0) (n := 80) rfl f_X5_7 dX5_hour_255 ?_
              refine aw_iconst X (4) dX5_hour_258 rfl ?_
              refine aw_fiald X hM 0 (b := 0) (n := 80) rfl 4 (xin_d rfl) (by decide) dX5_hour_259 ?_
              refine aw_icmp_le (tgt := 272) X dX5_hour_260 (by decide) (fun c260_3 => ?_) (fun c260_3 => ?_)
              · skip
                refine aw_iconst X (0) dX5_hour_272 rfl ?_
                refine aw_iadd X dX5_hour_273 ?_
                refine aw_fiast X FM_a hM 0 (b := 0) (n := 80) rfl 11 (xin_d rfl) (by decide) dX5_hour_274 (fun μ z_4 ez_4 hM => ?_)
                refine aw_iinc X (1) dX5_hour_275 rfl rfl rfl (by decide) ?_
                refine aw_goto (tgt := 210) X dX5_hour_278 (by decide) ?_
                refine aw_sub [some (.ref (ma 0)), none, none, some (.int (gMoveU zj119).1), none, some (.int (nI (k + 1)))] ⟨rfl, rfl, congrArg (fun q => some (Value.int q)) (nI_1 k), trivial⟩ ?_
                exact ih (k + 1) μ _ (by omega) (by subst ezc ez_4; simp [mCost, mLate, c236_2, c260_3, Int32.not_lt.mpr c260_3]) hM
              · skip
                refine aw_aload_n X dX5_hour_263 rfl ?_
                refine aw_fgetA X hM 0 (t := 0) (b := 0) (n := 80) rfl f_X5_7 dX5_hour_264 ?_
                refine aw_iconst X (5) dX5_hour_267 rfl ?_
                refine aw_fiald X hM 0 (b := 0) (n := 80) rfl 5 (xin_d rfl) (by decide) dX5_hour_268 ?_
                refine aw_goto (tgt := 273) X dX5_hour_269 (by decide) ?_
                refine aw_iadd X dX5_hour_273 ?_
                refine aw_fiast X FM_a hM 0 (b := 0) (n := 80) rfl 11 (xin_d rfl) (by decide) dX5_hour_274 (fun μ z_4 ez_4 hM => ?_)
                refine aw_iinc X (1) dX5_hour_275 rfl rfl rfl (by decide) ?_
                refine aw_goto (tgt := 210) X dX5_hour_278 (by decide) ?_
                refine aw_sub [some (.ref (ma 0)), none, none, some (.int (gMoveU zj119).1), none, some (.int (nI (k + 1)))] ⟨rfl, rfl, congrArg (fun q => some (Value.int q)) (nI_1 k), trivial⟩ ?_
                exact ih (k + 1) μ _ (by omega) (by subst ezc ez_4; simp [mCost, mLate, c236_2, c260_3, Int32.not_le.mp c260_3]) hM
        refine aw_sub [some (.ref (ma 0)), none, none, some (.int (gMoveU zj119).1), none, some (.int (nI 0))] ⟨rfl, rfl, rfl, trivial⟩ ?_
        exact loop (wn + 1) 0 μ _ (by omega) rfl hM
      refine aw_iconst X (0) dX5_hour_119 rfl ?_
      refine aw_istore_n X dX5_hour_120 rfl (by decide) ?_
      refine aw_aload_n X dX5_hour_121 rfl ?_
      refine aw_fgetA X hM 0 (t := 0) (b := 0) (n := 80) rfl f_X5_7 dX5_hour_122 ?_
      refine aw_bipush X (13) dX5_hour_125 rfl ?_
      refine aw_fiald X hM 0 (b := 0) (n := 80) rfl 13 (xin_d rfl) (by decide) dX5_hour_127 ?_
      refine aw_iconst X (1) dX5_hour_128 rfl ?_
      refine aw_icmp_ne (tgt := 162) X dX5_hour_129 (by decide) (fun c129_2 => ?_) (fun c129_2 => ?_)
      · skip
        refine aw_iconst X (0) dX5_hour_162 rfl ?_
        refine aw_istore X dX5_hour_163 rfl (by decide) ?_
        refine aw_iconst X (0) dX5_hour_165 rfl ?_
        refine aw_istore X dX5_hour_166 rfl (by decide) ?_
        refine aw_iload X dX5_hour_168 rfl ?_
        refine aw_iconst X (4) dX5_hour_170 rfl ?_
        refine aw_icmp_ge_f (tgt := 207) X dX5_hour_171 (by decide) (by decide) ?_
        refine aw_iload X dX5_hour_174 rfl ?_
        refine aw_if_eq_t (tgt := 207) X dX5_hour_176 (by decide) (by decide) ?_
        refine aw_sub [some (.ref (ma 0)), none, none, some (.int (gMoveU zj119).1), none, none] ⟨rfl, congrArg (fun q => some (Value.int q)) (by rw [moveU_n hivj119 (Or.inl c129_2)]), trivial⟩ ?_
        exact j207 μ _ (by rw [moveU_n hivj119 (Or.inl c129_2)]) hM
      · skip
        refine aw_aload_n X dX5_hour_132 rfl ?_
        refine aw_iconst X (0) dX5_hour_133 rfl ?_
        refine aw_aload_n X dX5_hour_134 rfl ?_
        refine aw_fgetA X hM 0 (t := 0) (b := 0) (n := 80) rfl f_X5_7 dX5_hour_135 ?_
        refine aw_bipush X (6) dX5_hour_138 rfl ?_
        refine aw_fiald X hM 0 (b := 0) (n := 80) rfl 6 (xin_d rfl) (by decide) dX5_hour_140 ?_
        refine aw_cVFF (As := [.int _, .int _]) X hM (c_X5_floats (kl K) U _ ma _ hM.1 _ 0 rfl (by decide) _ (hn + 1) h6j119 (by omega)) s_X5_83 k_X5_floats (by decide) ⟨rfl, rfl⟩ ⟨Nat.zero_le _, Nat.zero_le _⟩ rfl (by exact Nat.le_of_ble_eq_true rfl) rfl dX5_hour_141 ?_
        refine aw_b_eq (tgt := 162) X dX5_hour_144 (by decide) (fun c144_3 => ?_) (fun c144_3 => ?_)
        · skip
          refine aw_iconst X (0) dX5_hour_162 rfl ?_
          refine aw_istore X dX5_hour_163 rfl (by decide) ?_
          refine aw_iconst X (0) dX5_hour_165 rfl ?_
          refine aw_istore X dX5_hour_166 rfl (by decide) ?_
          refine aw_iload X dX5_hour_168 rfl ?_
          refine aw_iconst X (4) dX5_hour_170 rfl ?_
          refine aw_icmp_ge_f (tgt := 207) X dX5_hour_171 (by decide) (by decide) ?_
          refine aw_iload X dX5_hour_174 rfl ?_
          refine aw_if_eq_t (tgt := 207) X dX5_hour_176 (by decide) (by decide) ?_
          refine aw_sub [some (.ref (ma 0)), none, none, some (.int (gMoveU zj119).1), none, none] ⟨rfl, congrArg (fun q => some (Value.int q)) (by rw [moveU_n hivj119 (Or.inr (Or.inl c144_3))]), trivial⟩ ?_
          exact j207 μ _ (by rw [moveU_n hivj119 (Or.inr (Or.inl c144_3))]) hM
        · skip
          refine aw_aload_n X dX5_hour_147 rfl ?_
          refine aw_fgetA X hM 0 (t := 0) (b := 0) (n := 80) rfl f_X5_7 dX5_hour_148 ?_
          refine aw_bipush X (7) dX5_hour_151 rfl ?_
          refine aw_fiald X hM 0 (b := 0) (n := 80) rfl 7 (xin_d rfl) (by decide) dX5_hour_153 ?_
          refine aw_iconst X (1) dX5_hour_154 rfl ?_
          refine aw_icmp_ne (tgt := 162) X dX5_hour_155 (by decide) (fun c155_4 => ?_) (fun c155_4 => ?_)
          · skip
            refine aw_iconst X (0) dX5_hour_162 rfl ?_
            refine aw_istore X dX5_hour_163 rfl (by decide) ?_
            refine aw_iconst X (0) dX5_hour_165 rfl ?_
            refine aw_istore X dX5_hour_166 rfl (by decide) ?_
            refine aw_iload X dX5_hour_168 rfl ?_
            refine aw_iconst X (4) dX5_hour_170 rfl ?_
            refine aw_icmp_ge_f (tgt := 207) X dX5_hour_171 (by decide) (by decide) ?_
            refine aw_iload X dX5_hour_174 rfl ?_
            refine aw_if_eq_t (tgt := 207) X dX5_hour_176 (by decide) (by decide) ?_
            refine aw_sub [some (.ref (ma 0)), none, none, some (.int (gMoveU zj119).1), none, none] ⟨rfl, congrArg (fun q => some (Value.int q)) (by rw [moveU_n hivj119 (Or.inr (Or.inr c155_4))]), trivial⟩ ?_
            exact j207 μ _ (by rw [moveU_n hivj119 (Or.inr (Or.inr c155_4))]) hM
          · skip
            refine aw_iconst X (1) dX5_hour_158 rfl ?_
            refine aw_goto (tgt := 163) X dX5_hour_159 (by decide) ?_
            refine aw_istore X dX5_hour_163 rfl (by decide) ?_
            refine aw_iconst X (0) dX5_hour_165 rfl ?_
            refine aw_istore X dX5_hour_166 rfl (by decide) ?_
            have loop : ∀ (d k : Nat) (μ : xH) (zc : xV) , k + d = 4 → zc = (gMoves zj119 k).2 → FR U μ0 μ ma 5 FM zc → AW U K 6 0 0 Q μ 168 [some (.ref (ma 0)), none, none, some (.int (gMoves zj119 k).1), some (.int 1), some (.int (nI k))] [] := by
              intro d
              induction d with
              | zero =>
                intro k μ zc hk ezc hM
                have hk : k = 4 := by omega
                subst hk
                refine aw_iload X dX5_hour_168 rfl ?_
                refine aw_iconst X (4) dX5_hour_170 rfl ?_
                refine aw_icmp_ge_t (tgt := 207) X dX5_hour_171 (by decide) (by decide) ?_
                refine aw_sub [some (.ref (ma 0)), none, none, some (.int (gMoveU zj119).1), none, none] ⟨rfl, congrArg (fun q => some (Value.int q)) (by rw [moveU_y c129_2 c144_3 c155_4]), trivial⟩ ?_
                exact j207 μ _ (by rw [ezc, moveU_y c129_2 c144_3 c155_4]) hM
              | succ d ih =>
                intro k μ zc hk ezc hM
                refine aw_iload X dX5_hour_168 rfl ?_
                refine aw_iconst X (4) dX5_hour_170 rfl ?_
                refine aw_icmp_ge_f (tgt := 207) X dX5_hour_171 (by decide) (xn_le (N := 4) (by omega) (by decide) rfl) ?_
                refine aw_iload X dX5_hour_174 rfl ?_
                refine aw_if_eq_f (tgt := 207) X dX5_hour_176 (by decide) (by decide) ?_
                have hv : IV zc := by rw [ezc]; exact (hivj119.moves c129_2 k (by omega)).1.1
                refine aw_iload_n X dX5_hour_179 rfl ?_
                refine aw_aload_n X dX5_hour_180 rfl ?_
                refine aw_iload X dX5_hour_181 rfl ?_
                refine aw_cVFF (As := [.int _]) X hM (c_X5_isConnected (kl K) U _ ma _ hM.1 _ (k) rfl (by omega) ((hv.2.2.2.2.2.2.1 (k) (by omega)).2.2.1)) s_X5_66 k_X5_isConnected (by decide) ⟨rfl, rfl⟩ ⟨Nat.zero_le _, Nat.zero_le _⟩ rfl (by exact Nat.le_of_ble_eq_true rfl) rfl dX5_hour_183 ?_
                refine aw_b_eq (tgt := 198) X dX5_hour_186 (by decide) (fun c186_5 => ?_) (fun c186_5 => ?_)
                · skip
                  refine aw_iconst X (0) dX5_hour_198 rfl ?_
                  refine aw_iadd X dX5_hour_199 ?_
                  refine aw_istore_n X dX5_hour_200 rfl (by decide) ?_
                  refine aw_iinc X (1) dX5_hour_201 rfl rfl rfl (by decide) ?_
                  refine aw_goto (tgt := 168) X dX5_hour_204 (by decide) ?_
                  refine aw_sub [some (.ref (ma 0)), none, none, some (.int (gMoves zj119 (k + 1)).1), some (.int 1), some (.int (nI (k + 1)))] ⟨rfl, congrArg (fun q => some (Value.int q)) (by subst ezc; first | rfl | simp [gMoves, gMove, c129_2, c144_3, c155_4, c186_5]), rfl, congrArg (fun q => some (Value.int q)) (nI_1 k), trivial⟩ ?_
                  exact ih (k + 1) μ _ (by omega) (by subst ezc; first | rfl | simp [gMoves, gMove, c129_2, c144_3, c155_4, c186_5]) hM
                · skip
                  refine aw_aload_n X dX5_hour_189 rfl ?_
                  refine aw_iload X dX5_hour_190 rfl ?_
                  refine aw_cVFR (As := [.int _]) X hM (c_X5_moves (kl K) U _ ma _ hM.1 _ (k) rfl (by omega) c186_5 hv) s_X5_87 k_X5_moves (by decide) ⟨rfl, rfl⟩ ⟨Nat.zero_le _, Nat.zero_le _⟩ rfl (by exact Nat.le_of_ble_eq_true rfl) rfl dX5_hour_192 (fun μ z_6 ez_6 hM => ?_)
                  refine aw_goto (tgt := 199) X dX5_hour_195 (by decide) ?_
                  refine aw_iadd X dX5_hour_199 ?_
                  refine aw_istore_n X dX5_hour_200 rfl (by decide) ?_
                  refine aw_iinc X (1) dX5_hour_201 rfl rfl rfl (by decide) ?_
                  refine aw_goto (tgt := 168) X dX5_hour_204 (by decide) ?_
                  refine aw_sub [some (.ref (ma 0)), none, none, some (.int (gMoves zj119 (k + 1)).1), some (.int 1), some (.int (nI (k + 1)))] ⟨rfl, congrArg (fun q => some (Value.int q)) (by subst ezc ez_6; first | rfl | simp [gMoves, gMove, c129_2, c144_3, c155_4, c186_5]), rfl, congrArg (fun q => some (Value.int q)) (nI_1 k), trivial⟩ ?_
                  exact ih (k + 1) μ _ (by omega) (by subst ezc ez_6; first | rfl | simp [gMoves, gMove, c129_2, c144_3, c155_4, c186_5]) hM
            refine aw_sub [some (.ref (ma 0)), none, none, some (.int (gMoves zj119 0).1), some (.int 1), some (.int (nI 0))] ⟨rfl, rfl, rfl, rfl, trivial⟩ ?_
            exact loop (4) 0 μ _ (by omega) rfl hM
    refine aw_iconst X (0) dX5_hour_79 rfl ?_
    refine aw_istore_n X dX5_hour_80 rfl (by decide) ?_
    have loop : ∀ (d k : Nat) (μ : xH) (zc : xV) , k + d = 4 → zc = gShorts zj79 k → FR U μ0 μ ma 5 FM zc → AW U K 6 0 0 Q μ 81 [some (.ref (ma 0)), none, none, some (.int (nI k)), none, none] [] := by
      intro d
      induction d with
      | zero =>
        intro k μ zc hk ezc hM
        have hk : k = 4 := by omega
        subst hk
        refine aw_iload_n X dX5_hour_81 rfl ?_
        refine aw_iconst X (4) dX5_hour_82 rfl ?_
        refine aw_icmp_ge_t (tgt := 119) X dX5_hour_83 (by decide) (by decide) ?_
        refine aw_sub [some (.ref (ma 0)), none, none, none, none, none] ⟨rfl, trivial⟩ ?_
        exact j119 μ _ (by rw [ezc]; exact gBursts_iv hivj79) hM
      | succ d ih =>
        intro k μ zc hk ezc hM
        refine aw_iload_n X dX5_hour_81 rfl ?_
        refine aw_iconst X (4) dX5_hour_82 rfl ?_
        refine aw_icmp_ge_f (tgt := 119) X dX5_hour_83 (by decide) (xn_le (N := 4) (by omega) (by decide) rfl) ?_
        have hv : IV zc := by rw [ezc]; exact hivj79.shorts k (by omega)
        have h6c : zc 6 = nI (hn + 1) := by rw [ezc, gShorts_o (by omega) k (by omega)]; exact h6j79
        have h80c : gShorts zj79 k (80 + k) = 0 := by rw [gShorts_o (by omega) k (by omega)]; exact h80j79 k (by omega)
        refine aw_aload_n X dX5_hour_86 rfl ?_
        refine aw_iload_n X dX5_hour_87 rfl ?_
        refine aw_cVFF (As := [.int _]) X hM (c_X5_isConnected (kl K) U _ ma _ hM.1 _ (k) rfl (by omega) ((hv.2.2.2.2.2.2.1 (k) (by omega)).2.2.1)) s_X5_66 k_X5_isConnected (by decide) ⟨rfl, rfl⟩ ⟨Nat.zero_le _, Nat.zero_le _⟩ rfl (by exact Nat.le_of_ble_eq_true rfl) rfl dX5_hour_88 ?_
        refine aw_b_eq (tgt := 113) X dX5_hour_91 (by decide) (fun c91_2 => ?_) (fun c91_2 => ?_)
        · skip
          refine aw_iinc X (1) dX5_hour_113 rfl rfl rfl (by decide) ?_
          refine aw_goto (tgt := 81) X dX5_hour_116 (by decide) ?_
          refine aw_sub [some (.ref (ma 0)), none, none, some (.int (nI (k + 1))), none, none] ⟨rfl, congrArg (fun q => some (Value.int q)) (nI_1 k), trivial⟩ ?_
          exact ih (k + 1) μ _ (by omega) (by subst ezc; simp [gShorts, gShort, c91_2, h80c]) hM
        · skip
          refine aw_aload_n X dX5_hour_94 rfl ?_
          refine aw_iconst X (0) dX5_hour_95 rfl ?_
          refine aw_cVFF (As := [.int _]) X hM (c_X5_heightOf (kl K) U _ ma _ hM.1 _ 0 rfl (by decide) _ h6c (by omega)) s_X5_76 k_X5_heightOf (by decide) ⟨rfl, rfl⟩ ⟨Nat.zero_le _, Nat.zero_le _⟩ rfl (by exact Nat.le_of_ble_eq_true rfl) rfl dX5_hour_96 ?_
          refine aw_aload_n X dX5_hour_99 rfl ?_
          refine aw_iload_n X dX5_hour_100 rfl ?_
          refine aw_iconst X (0) dX5_hour_101 rfl ?_
          refine aw_cVFF (As := [.int _, .int _]) X hM (c_X5_hoseOf (kl K) U _ ma _ hM.1 _ _ (k) 0 rfl rfl (by omega) (by decide)) s_X5_63 k_X5_hoseOf (by decide) ⟨rfl, rfl⟩ ⟨Nat.zero_le _, Nat.zero_le _⟩ rfl (by exact Nat.le_of_ble_eq_true rfl) rfl dX5_hour_102 ?_
          refine aw_icmp_le (tgt := 113) X dX5_hour_105 (by decide) (fun c105_3 => ?_) (fun c105_3 => ?_)
          · skip
            refine aw_iinc X (1) dX5_hour_113 rfl rfl rfl (by decide) ?_
            refine aw_goto (tgt := 81) X dX5_hour_116 (by decide) ?_
            refine aw_sub [some (.ref (ma 0)), none, none, some (.int (nI (k + 1))), none, none] ⟨rfl, congrArg (fun q => some (Value.int q)) (nI_1 k), trivial⟩ ?_
            exact ih (k + 1) μ _ (by omega) (by subst ezc; simp [gShorts, gShort, c91_2, c105_3, Int32.not_lt.mpr c105_3, h80c]) hM
          · skip
            refine aw_aload_n X dX5_hour_108 rfl ?_
            refine aw_iload_n X dX5_hour_109 rfl ?_
            refine aw_cVFK (As := [.int _]) X hM (c_X5_bursts (kl K) U _ ma _ hM.1 _ (k) rfl (by omega) c91_2 hv.2.2.2.2.1) s_X5_79 k_X5_bursts (by decide) ⟨rfl, rfl⟩ ⟨Nat.zero_le _, Nat.zero_le _⟩ rfl (by exact Nat.le_of_ble_eq_true rfl) rfl dX5_hour_110 (fun μ z_4 ez_4 hM => ?_)
            refine aw_iinc X (1) dX5_hour_113 rfl rfl rfl (by decide) ?_
            refine aw_goto (tgt := 81) X dX5_hour_116 (by decide) ?_
            refine aw_sub [some (.ref (ma 0)), none, none, some (.int (nI (k + 1))), none, none] ⟨rfl, congrArg (fun q => some (Value.int q)) (nI_1 k), trivial⟩ ?_
            exact ih (k + 1) μ _ (by omega) (by subst ezc ez_4; simp [gShorts, gShort, c91_2, c105_3, Int32.not_le.mp c105_3, h80c]) hM
    refine aw_sub [some (.ref (ma 0)), none, none, some (.int (nI 0)), none, none] ⟨rfl, rfl, trivial⟩ ?_
    exact loop (4) 0 μ _ (by omega) rfl hM
  refine aw_aload_n X dX5_hour_23 rfl ?_
  refine aw_fgetA X hM 0 (t := 0) (b := 0) (n := 80) rfl f_X5_7 dX5_hour_24 ?_
  refine aw_bipush X (7) dX5_hour_27 rfl ?_
  refine aw_fiald X hM 0 (b := 0) (n := 80) rfl 7 (xin_d rfl) (by decide) dX5_hour_29 ?_
  refine aw_iconst X (1) dX5_hour_30 rfl ?_
  refine aw_icmp_ne (tgt := 79) X dX5_hour_31 (by decide) (fun c31_2 => ?_) (fun c31_2 => ?_)
  · skip
    refine aw_sub [some (.ref (ma 0)), none, none, none, none, none] ⟨rfl, trivial⟩ ?_
    exact j79 μ _ (tear_n c31_2 hiv1.2.2.2.2.1) hM
  · skip
    refine aw_iload_n X dX5_hour_34 rfl ?_
    refine aw_bipush X (15) dX5_hour_35 rfl ?_
    refine aw_icmp_gt (tgt := 46) X dX5_hour_37 (by decide) (fun c37_3 => ?_) (fun c37_3 => ?_)
    · skip
      refine aw_aload_n X dX5_hour_46 rfl ?_
      refine aw_fgetA X hM 0 (t := 0) (b := 0) (n := 80) rfl f_X5_7 dX5_hour_47 ?_
      refine aw_bipush X (7) dX5_hour_50 rfl ?_
      refine aw_iconst X (0) dX5_hour_52 rfl ?_
      refine aw_fiast X FM_a hM 0 (b := 0) (n := 80) rfl 7 (xin_d rfl) (by decide) dX5_hour_53 (fun μ z_4 ez_4 hM => ?_)
      refine aw_aload_n X dX5_hour_54 rfl ?_
      refine aw_fgetA X hM 0 (t := 0) (b := 0) (n := 80) rfl f_X5_7 dX5_hour_55 ?_
      refine aw_bipush X (9) dX5_hour_58 rfl ?_
      refine aw_dup2 X dX5_hour_60 rfl rfl ?_
      refine aw_fiald X hM 0 (b := 0) (n := 80) rfl 9 (xin_d rfl) (by decide) dX5_hour_61 ?_
      refine aw_aload_n X dX5_hour_62 rfl ?_
      refine aw_fgetA X hM 0 (t := 0) (b := 0) (n := 80) rfl f_X5_7 dX5_hour_63 ?_
      refine aw_bipush X (8) dX5_hour_66 rfl ?_
      refine aw_fiald X hM 0 (b := 0) (n := 80) rfl 8 (xin_d rfl) (by decide) dX5_hour_68 ?_
      refine aw_iadd X dX5_hour_69 ?_
      refine aw_fiast X FM_a hM 0 (b := 0) (n := 80) rfl 9 (xin_d rfl) (by decide) dX5_hour_70 (fun μ z_5 ez_5 hM => ?_)
      refine aw_aload_n X dX5_hour_71 rfl ?_
      refine aw_fgetA X hM 0 (t := 0) (b := 0) (n := 80) rfl f_X5_7 dX5_hour_72 ?_
      refine aw_bipush X (8) dX5_hour_75 rfl ?_
      refine aw_iconst X (0) dX5_hour_77 rfl ?_
      refine aw_fiast X FM_a hM 0 (b := 0) (n := 80) rfl 8 (xin_d rfl) (by decide) dX5_hour_78 (fun μ z_6 ez_6 hM => ?_)
      refine aw_sub [some (.ref (ma 0)), none, none, none, none, none] ⟨rfl, trivial⟩ ?_
      exact j79 μ _ (by subst ez_4 ez_5 ez_6; exact tear_y hiv1 c31_2 (Or.inl c37_3)) hM
    · skip
      refine aw_iload_n X dX5_hour_40 rfl ?_
      refine aw_bipush X (-15) dX5_hour_41 rfl ?_
      refine aw_icmp_ge (tgt := 79) X dX5_hour_43 (by decide) (fun c43_4 => ?_) (fun c43_4 => ?_)
      · skip
        refine aw_sub [some (.ref (ma 0)), none, none, none, none, none] ⟨rfl, trivial⟩ ?_
        exact j79 μ _ (tear_k hiv1 c37_3 c43_4) hM
      · skip
        refine aw_aload_n X dX5_hour_46 rfl ?_
        refine aw_fgetA X hM 0 (t := 0) (b := 0) (n := 80) rfl f_X5_7 dX5_hour_47 ?_
        refine aw_bipush X (7) dX5_hour_50 rfl ?_
        refine aw_iconst X (0) dX5_hour_52 rfl ?_
        refine aw_fiast X FM_a hM 0 (b := 0) (n := 80) rfl 7 (xin_d rfl) (by decide) dX5_hour_53 (fun μ z_5 ez_5 hM => ?_)
        refine aw_aload_n X dX5_hour_54 rfl ?_
        refine aw_fgetA X hM 0 (t := 0) (b := 0) (n := 80) rfl f_X5_7 dX5_hour_55 ?_
        refine aw_bipush X (9) dX5_hour_58 rfl ?_
        refine aw_dup2 X dX5_hour_60 rfl rfl ?_
        refine aw_fiald X hM 0 (b := 0) (n := 80) rfl 9 (xin_d rfl) (by decide) dX5_hour_61 ?_
        refine aw_aload_n X dX5_hour_62 rfl ?_
        refine aw_fgetA X hM 0 (t := 0) (b := 0) (n := 80) rfl f_X5_7 dX5_hour_63 ?_
        refine aw_bipush X (8) dX5_hour_66 rfl ?_
        refine aw_fiald X hM 0 (b := 0) (n := 80) rfl 8 (xin_d rfl) (by decide) dX5_hour_68 ?_
        refine aw_iadd X dX5_hour_69 ?_
        refine aw_fiast X FM_a hM 0 (b := 0) (n := 80) rfl 9 (xin_d rfl) (by decide) dX5_hour_70 (fun μ z_6 ez_6 hM => ?_)
        refine aw_aload_n X dX5_hour_71 rfl ?_
        refine aw_fgetA X hM 0 (t := 0) (b := 0) (n := 80) rfl f_X5_7 dX5_hour_72 ?_
        refine aw_bipush X (8) dX5_hour_75 rfl ?_
        refine aw_iconst X (0) dX5_hour_77 rfl ?_
        refine aw_fiast X FM_a hM 0 (b := 0) (n := 80) rfl 8 (xin_d rfl) (by decide) dX5_hour_78 (fun μ z_7 ez_7 hM => ?_)
        refine aw_sub [some (.ref (ma 0)), none, none, none, none, none] ⟨rfl, trivial⟩ ?_
        exact j79 μ _ (by subst ez_5 ez_6 ez_7; exact tear_y hiv1 c31_2 (Or.inr c43_4)) hM
