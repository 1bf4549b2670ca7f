set_option maxHeartbeats 1000000 in
set_option maxRecDepth 100000 in
theorem c_X4_safeFor (l : Launch) (U : xU) (lab : Nat → Nat) (μ0 : xH) (shs : Nat → Nat → Nat) (pa o : Nat → Nat) (rs : xR) (p : xV) (un : Nat) (sv : Nat → Int32) (hO0 : ORep U lab μ0 shs pa o rs p un sv) (h : Int32) : CtOT l U yX4_safeFor cX4_safeFor 3 (some .int) ({ frames := 5, cells := 0, slots := 0, locals := 109 } : Room) [.ref (o 0), .int h] lab μ0 shs pa o (cSaf (rs 0) h) rs p un sv := by
  refine Ct.of [some (.ref (o 0)), some (.int h), none] (by decide +kernel) rfl (Nat.le_of_ble_eq_true rfl) (fun K Q X hnm hQ => ?_)
  obtain ⟨μ, hμ, hO⟩ : ∃ μ : xH, μ0 = μ ∧ OR U lab μ0 μ shs pa o rs p un sv := ⟨μ0, rfl, OR.rf hO0⟩
  refine aw_mu hμ ?_
  have hr : ∀ q, q ≠ 1 → rs q = rs q := fun _ _ => rfl
  refine aw_iload_n X dX4_safeFor_0 rfl ?_
  refine aw_cSF (As := [.int _]) X (c_X4_isHose (kl K) U _ _) s_X4_149 k_X4_isHose (by decide) ⟨rfl, rfl⟩ ⟨Nat.zero_le _, Nat.zero_le _⟩ rfl (by exact Nat.le_of_ble_eq_true rfl) dX4_safeFor_1 ?_
  refine aw_b_ne (tgt := 10) X dX4_safeFor_4 (by decide) (fun c4_1 => ?_) (fun c4_1 => ?_)
  · skip
    refine aw_aload_n X dX4_safeFor_10 rfl ?_
    refine aw_oget X hO f_X4_10 rfl dX4_safeFor_11 ?_
    refine aw_jget X (hO.jr 0 (by decide)) f_X4_153 rfl dX4_safeFor_14 ?_
    refine aw_iload_n X dX4_safeFor_17 rfl ?_
    refine aw_hoseAt X (hO.jr 0 (by decide)) (tn h) (isG_tn c4_1) (isG_hv c4_1) dX4_safeFor_18 ?_
    refine aw_cVF (As := []) X (c_X0_isConnected (kl K) U _ (shs 0) _ (hO.jr 0 (by decide)).1 (tn h) (isG_tn c4_1)) s_X4_157 k_X0_isConnected (by decide) ⟨rfl, rfl⟩ ⟨Nat.zero_le _, Nat.zero_le _⟩ rfl (by exact Nat.le_of_ble_eq_true rfl) ((hO.jr 0 (by decide)).gH _ (isG_tn c4_1)) rfl dX4_safeFor_19 ?_
    refine aw_b_ne (tgt := 28) X dX4_safeFor_22 (by decide) (fun c22_2 => ?_) (fun c22_2 => ?_)
    · skip
      refine aw_aload_n X dX4_safeFor_28 rfl ?_
      refine aw_oget X hO f_X4_16 rfl dX4_safeFor_29 ?_
      refine aw_aload_n X dX4_safeFor_32 rfl ?_
      refine aw_oget X hO f_X4_10 rfl dX4_safeFor_33 ?_
      refine aw_cVK (As := [.ref _]) X (hO.jr 1 (by decide)) (c_X1_copyFrom (kl K) U _ (shs 1) _ (hO.J 1 (by decide)) (shs 0) _ (hO.J 0 (by decide)) (hO.ne (by decide) (by decide) (by omega))) s_X4_162 k_X1_copyFrom (by decide) ⟨rfl, rfl⟩ ⟨Nat.zero_le _, Nat.zero_le _⟩ rfl (by exact Nat.le_of_ble_eq_true rfl) (hO.jr 1 (by decide)).g0 rfl dX4_safeFor_36 (fun μ z_3 ez_3 hJ => ?_)
      have hO := hO.upJ 1 (by decide) hJ
      obtain ⟨rs_3, ers_3⟩ : ∃ q : xR, q = rup rs 1 z_3 := ⟨_, rfl⟩
      rw [← ers_3] at hO
      have hr : ∀ q, q ≠ 1 → rs_3 q = rs q := fun q hq => by rw [ers_3]; exact (rup_n hq).trans (hr q hq)
      have h1_rs_3 : rs_3 1 = z_3 := by rw [ers_3, rup_s]
      refine aw_iconst X (0) dX4_safeFor_39 rfl ?_
      refine aw_istore_n X dX4_safeFor_40 rfl (by decide) ?_
      have loop : ∀ (d k : Nat) (μ : xH) (rsc : xR), k + d = 200 → ff (fun k => decide (¬ (gHours (rs 0) (k + 1)).2 (hz (tn h) 3) = 0)) d k = sfN (rs 0) (tn h) → rsc 1 = (gHours (rs 0) k).2 → (∀ q, q ≠ 1 → rsc q = rs q) → OR U lab μ0 μ shs pa o rsc p un sv → AW U K 3 0 0 Q μ 41 [some (.ref (o 0)), some (.int h), some (.int (nI k))] [] := by
        intro d
        induction d with
        | zero =>
          intro k μ rsc hk hR h1 hr hO
          obtain rfl : k = 200 := by omega
          refine aw_iload_n X dX4_safeFor_41 rfl ?_
          refine aw_sipush X (200) dX4_safeFor_42 rfl ?_
          refine aw_icmp_ge_t (tgt := 79) X dX4_safeFor_45 (by decide) (by decide) ?_
          refine aw_ldc X dX4_safeFor_79 a_X4_94 ?_
          exact aw_iret X hQ dX4_safeFor_81 ⟨congrArg (fun q => some (Value.int q)) (by rw [cSaf, if_neg (by rw [c4_1]; decide), if_neg (by rw [c22_2]; decide), ← hR]; rfl), rsc, hr, hO⟩
        | succ d ih =>
          intro k μ rsc hk hR h1 hr hO
          refine aw_iload_n X dX4_safeFor_41 rfl ?_
          refine aw_sipush X (200) dX4_safeFor_42 rfl ?_
          refine aw_icmp_ge_f (tgt := 79) X dX4_safeFor_45 (by decide) (xn_le (N := 200) (by omega) (by decide) rfl) ?_
          refine aw_aload_n X dX4_safeFor_48 rfl ?_
          refine aw_oget X hO f_X4_16 rfl dX4_safeFor_49 ?_
          refine aw_cVJ (As := []) X (hO.jr 1 (by decide)) (c_X1_nextHour (kl K) U _ (shs 1) _ (hO.J 1 (by decide))  ) s_X4_166 k_X1_nextHour (by decide) ⟨rfl, rfl⟩ ⟨Nat.zero_le _, Nat.zero_le _⟩ rfl (by exact Nat.le_of_ble_eq_true rfl) (hO.jr 1 (by decide)).g0 rfl dX4_safeFor_52 (fun μ z_4 ez_4 hJ => ?_)
          have hO := hO.upJ 1 (by decide) hJ
          obtain ⟨rs_4, ers_4⟩ : ∃ q : xR, q = rup rsc 1 z_4 := ⟨_, rfl⟩
          rw [← ers_4] at hO
          have hr : ∀ q, q ≠ 1 → rs_4 q = rs q := fun q hq => by rw [ers_4]; exact (rup_n hq).trans (hr q hq)
          have h1_rs_4 : rs_4 1 = z_4 := by rw [ers_4, rup_s]
          refine aw_pop X dX4_safeFor_55 rfl ?_
          refine aw_aload_n X dX4_safeFor_56 rfl ?_
          refine aw_oget X hO f_X4_16 rfl dX4_safeFor_57 ?_
          refine aw_jget X (hO.jr 1 (by decide)) f_X4_153 rfl dX4_safeFor_60 ?_
          refine aw_iload_n X dX4_safeFor_63 rfl ?_
          refine aw_hoseAt X (hO.jr 1 (by decide)) (tn h) (isG_tn c4_1) (isG_hv c4_1) dX4_safeFor_64 ?_
          refine aw_hget X (hO.jr 1 (by decide)) (tn h) (isG_tn c4_1) f_X4_169 rfl dX4_safeFor_65 ?_
          refine aw_if_eq (tgt := 73) X dX4_safeFor_68 (by decide) (fun c68_5 => ?_) (fun c68_5 => ?_)
          · skip
            refine aw_iinc X (1) dX4_safeFor_73 rfl rfl rfl (by decide) ?_
            refine aw_goto (tgt := 41) X dX4_safeFor_76 (by decide) ?_
            have hb : rs_4 1 = (gHours (rs 0) (k + 1)).2 := by rw [h1_rs_4, ez_4, h1]; rfl
            rw [hb] at c68_5
            rw [ff, if_neg (by rw [decide_eq_true_iff]; exact fun q => q c68_5)] at hR
            refine aw_sub [some (.ref (o 0)), some (.int h), some (.int (nI (k + 1)))] ⟨rfl, rfl, congrArg (fun q => some (Value.int q)) (nI_1 k), trivial⟩ ?_
            exact ih (k + 1) μ _ (by omega) hR hb hr hO
          · skip
            refine aw_iload_n X dX4_safeFor_71 rfl ?_
            have hb : rs_4 1 = (gHours (rs 0) (k + 1)).2 := by rw [h1_rs_4, ez_4, h1]; rfl
            rw [hb] at c68_5
            rw [ff, if_pos (by rw [decide_eq_true_iff]; exact c68_5)] at hR
            exact aw_iret X hQ dX4_safeFor_72 ⟨congrArg (fun q => some (Value.int q)) (by rw [cSaf, if_neg (by rw [c4_1]; decide), if_neg (by rw [c22_2]; decide), ← hR, if_neg (by omega)]), rs_4, hr, hO⟩
      refine aw_sub [some (.ref (o 0)), some (.int h), some (.int (nI 0))] ⟨rfl, rfl, rfl, trivial⟩ ?_
      exact loop 200 0 μ _ (by omega) rfl (by rw [h1_rs_3, ez_3]; rfl) hr hO
    · skip
      refine aw_ldc X dX4_safeFor_25 a_X4_132 ?_
      exact aw_iret X hQ dX4_safeFor_27 ⟨congrArg (fun q => some (Value.int q)) (by rw [cSaf, if_neg (by rw [c4_1]; decide), if_pos c22_2]), rs, fun _ _ => rfl, hO⟩
  · skip
    refine aw_ldc X dX4_safeFor_7 a_X4_152 ?_
    exact aw_iret X hQ dX4_safeFor_9 ⟨congrArg (fun q => some (Value.int q)) (by rw [cSaf, if_pos c4_1]), rs, fun _ _ => rfl, hO⟩

set_option maxHeartbeats 1000000 in
set_option maxRecDepth 100000 in
theorem c_X4_untilEmpty (l : Launch) (U : xU) (lab : Nat → Nat) (μ0 : xH) (shs : Nat → Nat → Nat) (pa o : Nat → Nat) (rs : xR) (p : xV) (un : Nat) (sv : Nat → Int32) (hO0 : ORep U lab μ0 shs pa o rs p un sv) : CtOT l U yX4_untilEmpty cX4_untilEmpty 2 (some .int) ({ frames := 5, cells := 0, slots := 0, locals := 109 } : Room) [.ref (o 0)] lab μ0 shs pa o (cEmp (rs 0)) rs p un sv := by
  refine Ct.of [some (.ref (o 0)), none] (by decide +kernel) rfl (Nat.le_of_ble_eq_true rfl) (fun K Q X hnm hQ => ?_)
  obtain ⟨μ, hμ, hO⟩ : ∃ μ : xH, μ0 = μ ∧ OR U lab μ0 μ shs pa o rs p un sv := ⟨μ0, rfl, OR.rf hO0⟩
  refine aw_mu hμ ?_
  have hr : ∀ q, q ≠ 1 → rs q = rs q := fun _ _ => rfl
  refine aw_aload_n X dX4_untilEmpty_0 rfl ?_
  refine aw_oget X hO f_X4_10 rfl dX4_untilEmpty_1 ?_
  refine aw_jget X (hO.jr 0 (by decide)) f_X4_173 rfl dX4_untilEmpty_4 ?_
  refine aw_if_ne (tgt := 13) X dX4_untilEmpty_7 (by decide) (fun c7_1 => ?_) (fun c7_1 => ?_)
  · skip
    refine aw_aload_n X dX4_untilEmpty_13 rfl ?_
    refine aw_oget X hO f_X4_16 rfl dX4_untilEmpty_14 ?_
    refine aw_aload_n X dX4_untilEmpty_17 rfl ?_
    refine aw_oget X hO f_X4_10 rfl dX4_untilEmpty_18 ?_
    refine aw_cVK (As := [.ref _]) X (hO.jr 1 (by decide)) (c_X1_copyFrom (kl K) U _ (shs 1) _ (hO.J 1 (by decide)) (shs 0) _ (hO.J 0 (by decide)) (hO.ne (by decide) (by decide) (by omega))) s_X4_162 k_X1_copyFrom (by decide) ⟨rfl, rfl⟩ ⟨Nat.zero_le _, Nat.zero_le _⟩ rfl (by exact Nat.le_of_ble_eq_true rfl) (hO.jr 1 (by decide)).g0 rfl dX4_untilEmpty_21 (fun μ z_2 ez_2 hJ => ?_)
    have hO := hO.upJ 1 (by decide) hJ
    obtain ⟨rs_2, ers_2⟩ : ∃ q : xR, q = rup rs 1 z_2 := ⟨_, rfl⟩
    rw [← ers_2] at hO
    have hr : ∀ q, q ≠ 1 → rs_2 q = rs q := fun q hq => by rw [ers_2]; exact (rup_n hq).trans (hr q hq)
    have h1_rs_2 : rs_2 1 = z_2 := by rw [ers_2, rup_s]
    refine aw_iconst X (0) dX4_untilEmpty_24 rfl ?_
    refine aw_istore_n X dX4_untilEmpty_25 rfl (by decide) ?_
    have loop : ∀ (d k : Nat) (μ : xH) (rsc : xR), k + d = 200 → ff (fun k => decide (cUnits (gHours (rs 0) k).2 0 = 0)) d k = ceN (rs 0) → rsc 1 = (gHours (rs 0) k).2 → (∀ q, q ≠ 1 → rsc q = rs q) → OR U lab μ0 μ shs pa o rsc p un sv → AW U K 2 0 0 Q μ 26 [some (.ref (o 0)), some (.int (nI k))] [] := by
      intro d
      induction d with
      | zero =>
        intro k μ rsc hk hR h1 hr hO
        obtain rfl : k = 200 := by omega
        refine aw_iload_n X dX4_untilEmpty_26 rfl ?_
        refine aw_sipush X (200) dX4_untilEmpty_27 rfl ?_
        refine aw_icmp_ge_t (tgt := 64) X dX4_untilEmpty_30 (by decide) (by decide) ?_
        refine aw_aload_n X dX4_untilEmpty_64 rfl ?_
        refine aw_oget X hO f_X4_16 rfl dX4_untilEmpty_65 ?_
        refine aw_jget X (hO.jr 1 (by decide)) f_X4_133 rfl dX4_untilEmpty_68 ?_
        refine aw_iconst X (0) dX4_untilEmpty_71 rfl ?_
        refine aw_tankAt X (hO.jr 1 (by decide)) (0) (by decide) (by decide) dX4_untilEmpty_72 ?_
        refine aw_cVF (As := []) X (c_X3_allUnits (kl K) U _ (shs 1) _ (hO.jr 1 (by decide)).1 (0) (by decide)) s_X4_176 k_X3_allUnits (by decide) ⟨rfl, rfl⟩ ⟨Nat.zero_le _, Nat.zero_le _⟩ rfl (by exact Nat.le_of_ble_eq_true rfl) ((hO.jr 1 (by decide)).gT _ (by decide)) rfl dX4_untilEmpty_73 ?_
        refine aw_if_ne (tgt := 85) X dX4_untilEmpty_76 (by decide) (fun c76_3 => ?_) (fun c76_3 => ?_)
        · skip
          refine aw_ldc X dX4_untilEmpty_85 a_X4_94 ?_
          rw [h1] at c76_3
          have e2 : ceN (rs 0) = 200 := hR.symm
          exact aw_iret X hQ dX4_untilEmpty_87 ⟨congrArg (fun q => some (Value.int q)) (by rw [cEmp, if_neg c7_1, e2, if_neg c76_3]), rsc, hr, hO⟩
        · skip
          refine aw_sipush X (200) dX4_untilEmpty_79 rfl ?_
          refine aw_goto (tgt := 87) X dX4_untilEmpty_82 (by decide) ?_
          rw [h1] at c76_3
          have e2 : ceN (rs 0) = 200 := hR.symm
          exact aw_iret X hQ dX4_untilEmpty_87 ⟨congrArg (fun q => some (Value.int q)) (by rw [cEmp, if_neg c7_1, e2, if_pos c76_3]; rfl), rsc, hr, hO⟩
      | succ d ih =>
        intro k μ rsc hk hR h1 hr hO
        refine aw_iload_n X dX4_untilEmpty_26 rfl ?_
        refine aw_sipush X (200) dX4_untilEmpty_27 rfl ?_
        refine aw_icmp_ge_f (tgt := 64) X dX4_untilEmpty_30 (by decide) (xn_le (N := 200) (by omega) (by decide) rfl) ?_
        refine aw_aload_n X dX4_untilEmpty_33 rfl ?_
        refine aw_oget X hO f_X4_16 rfl dX4_untilEmpty_34 ?_
        refine aw_jget X (hO.jr 1 (by decide)) f_X4_133 rfl dX4_untilEmpty_37 ?_
        refine aw_iconst X (0) dX4_untilEmpty_40 rfl ?_
        refine aw_tankAt X (hO.jr 1 (by decide)) (0) (by decide) (by decide) dX4_untilEmpty_41 ?_
        refine aw_cVF (As := []) X (c_X3_allUnits (kl K) U _ (shs 1) _ (hO.jr 1 (by decide)).1 (0) (by decide)) s_X4_176 k_X3_allUnits (by decide) ⟨rfl, rfl⟩ ⟨Nat.zero_le _, Nat.zero_le _⟩ rfl (by exact Nat.le_of_ble_eq_true rfl) ((hO.jr 1 (by decide)).gT _ (by decide)) rfl dX4_untilEmpty_42 ?_
        refine aw_if_ne (tgt := 50) X dX4_untilEmpty_45 (by decide) (fun c45_3 => ?_) (fun c45_3 => ?_)
        · skip
          refine aw_aload_n X dX4_untilEmpty_50 rfl ?_
          refine aw_oget X hO f_X4_16 rfl dX4_untilEmpty_51 ?_
          refine aw_cVJ (As := []) X (hO.jr 1 (by decide)) (c_X1_nextHour (kl K) U _ (shs 1) _ (hO.J 1 (by decide))  ) s_X4_166 k_X1_nextHour (by decide) ⟨rfl, rfl⟩ ⟨Nat.zero_le _, Nat.zero_le _⟩ rfl (by exact Nat.le_of_ble_eq_true rfl) (hO.jr 1 (by decide)).g0 rfl dX4_untilEmpty_54 (fun μ z_4 ez_4 hJ => ?_)
          have hO := hO.upJ 1 (by decide) hJ
          obtain ⟨rs_4, ers_4⟩ : ∃ q : xR, q = rup rsc 1 z_4 := ⟨_, rfl⟩
          rw [← ers_4] at hO
          have hr : ∀ q, q ≠ 1 → rs_4 q = rs q := fun q hq => by rw [ers_4]; exact (rup_n hq).trans (hr q hq)
          have h1_rs_4 : rs_4 1 = z_4 := by rw [ers_4, rup_s]
          refine aw_pop X dX4_untilEmpty_57 rfl ?_
          refine aw_iinc X (1) dX4_untilEmpty_58 rfl rfl rfl (by decide) ?_
          refine aw_goto (tgt := 26) X dX4_untilEmpty_61 (by decide) ?_
          rw [h1] at c45_3
          rw [ff, if_neg (by rw [decide_eq_true_iff]; exact c45_3)] at hR
          refine aw_sub [some (.ref (o 0)), some (.int (nI (k + 1)))] ⟨rfl, congrArg (fun q => some (Value.int q)) (nI_1 k), trivial⟩ ?_
          exact ih (k + 1) μ _ (by omega) hR (by rw [h1_rs_4, ez_4, h1]; rfl) hr hO
        · skip
          refine aw_iload_n X dX4_untilEmpty_48 rfl ?_
          rw [h1] at c45_3
          rw [ff, if_pos (by rw [decide_eq_true_iff]; exact c45_3)] at hR
          exact aw_iret X hQ dX4_untilEmpty_49 ⟨congrArg (fun q => some (Value.int q)) (by rw [cEmp, if_neg c7_1, ← hR, if_pos c45_3]), rsc, hr, hO⟩
    refine aw_sub [some (.ref (o 0)), some (.int (nI 0))] ⟨rfl, rfl, trivial⟩ ?_
    exact loop 200 0 μ _ (by omega) rfl (by rw [h1_rs_2, ez_2]; rfl) hr hO
  · skip
    refine aw_ldc X dX4_untilEmpty_10 a_X4_132 ?_
    exact aw_iret X hQ dX4_untilEmpty_12 ⟨congrArg (fun q => some (Value.int q)) (by rw [cEmp, if_pos c7_1]), rs, fun _ _ => rfl, hO⟩

set_option maxHeartbeats 1000000 in
set_option maxRecDepth 100000 in
theorem c_X4_ifPassed (l : Launch) (U : xU) (lab : Nat → Nat) (μ0 : xH) (shs : Nat → Nat → Nat) (pa o : Nat → Nat) (rs : xR) (p : xV) (un : Nat) (sv : Nat → Int32) (hO0 : ORep U lab μ0 shs pa o rs p un sv) (n w : Int32) : CtOT l U yX4_ifPassed cX4_ifPassed 5 (some .int) ({ frames := 5, cells := 0, slots := 0, locals := 109 } : Room) [.ref (o 0), .int n, .int w] lab μ0 shs pa o (cIfP (rs 0) n w) rs p un sv := by
  refine Ct.of [some (.ref (o 0)), some (.int n), some (.int w), none, none] (by decide +kernel) rfl (Nat.le_of_ble_eq_true rfl) (fun K Q X hnm hQ => ?_)
  obtain ⟨μ, hμ, hO⟩ : ∃ μ : xH, μ0 = μ ∧ OR U lab μ0 μ shs pa o rs p un sv := ⟨μ0, rfl, OR.rf hO0⟩
  refine aw_mu hμ ?_
  have hr : ∀ q, q ≠ 1 → rs q = rs q := fun _ _ => rfl
  refine aw_iload_n X dX4_ifPassed_0 rfl ?_
  refine aw_iconst X (1) dX4_ifPassed_1 rfl ?_
  refine aw_icmp_lt (tgt := 21) X dX4_ifPassed_2 (by decide) (fun c2_1 => ?_) (fun c2_1 => ?_)
  · skip
    refine aw_ldc X dX4_ifPassed_21 a_X4_125 ?_
    exact aw_iret X hQ dX4_ifPassed_23 ⟨congrArg (fun q => some (Value.int q)) (by rw [cIfP, if_pos (Or.inl c2_1)]), rs, fun _ _ => rfl, hO⟩
  · skip
    refine aw_iload_n X dX4_ifPassed_5 rfl ?_
    refine aw_sipush X (200) dX4_ifPassed_6 rfl ?_
    refine aw_icmp_gt (tgt := 21) X dX4_ifPassed_9 (by decide) (fun c9_2 => ?_) (fun c9_2 => ?_)
    · skip
      refine aw_ldc X dX4_ifPassed_21 a_X4_125 ?_
      exact aw_iret X hQ dX4_ifPassed_23 ⟨congrArg (fun q => some (Value.int q)) (by rw [cIfP, if_pos (Or.inr (Or.inl c9_2))]), rs, fun _ _ => rfl, hO⟩
    · skip
      refine aw_iload_n X dX4_ifPassed_12 rfl ?_
      refine aw_if_lt (tgt := 21) X dX4_ifPassed_13 (by decide) (fun c13_3 => ?_) (fun c13_3 => ?_)
      · skip
        refine aw_ldc X dX4_ifPassed_21 a_X4_125 ?_
        exact aw_iret X hQ dX4_ifPassed_23 ⟨congrArg (fun q => some (Value.int q)) (by rw [cIfP, if_pos (Or.inr (Or.inr (Or.inl c13_3)))]), rs, fun _ _ => rfl, hO⟩
      · skip
        refine aw_iload_n X dX4_ifPassed_16 rfl ?_
        refine aw_iconst X (3) dX4_ifPassed_17 rfl ?_
        refine aw_icmp_le (tgt := 24) X dX4_ifPassed_18 (by decide) (fun c18_4 => ?_) (fun c18_4 => ?_)
        · skip
          refine aw_aload_n X dX4_ifPassed_24 rfl ?_
          refine aw_oget X hO f_X4_16 rfl dX4_ifPassed_25 ?_
          refine aw_aload_n X dX4_ifPassed_28 rfl ?_
          refine aw_oget X hO f_X4_10 rfl dX4_ifPassed_29 ?_
          refine aw_cVK (As := [.ref _]) X (hO.jr 1 (by decide)) (c_X1_copyFrom (kl K) U _ (shs 1) _ (hO.J 1 (by decide)) (shs 0) _ (hO.J 0 (by decide)) (hO.ne (by decide) (by decide) (by omega))) s_X4_162 k_X1_copyFrom (by decide) ⟨rfl, rfl⟩ ⟨Nat.zero_le _, Nat.zero_le _⟩ rfl (by exact Nat.le_of_ble_eq_true rfl) (hO.jr 1 (by decide)).g0 rfl dX4_ifPassed_32 (fun μ z_5 ez_5 hJ => ?_)
          have hO := hO.upJ 1 (by decide) hJ
          obtain ⟨rs_5, ers_5⟩ : ∃ q : xR, q = rup rs 1 z_5 := ⟨_, rfl⟩
          rw [← ers_5] at hO
          have hr : ∀ q, q ≠ 1 → rs_5 q = rs q := fun q hq => by rw [ers_5]; exact (rup_n hq).trans (hr q hq)
          have h1_rs_5 : rs_5 1 = z_5 := by rw [ers_5, rup_s]
          refine aw_iconst X (0) dX4_ifPassed_35 rfl ?_
          refine aw_istore_n X dX4_ifPassed_36 rfl (by decide) ?_
          refine aw_iconst X (0) dX4_ifPassed_37 rfl ?_
          refine aw_istore X dX4_ifPassed_38 rfl (by decide) ?_
          obtain ⟨pn, hpn1, hpn, ep⟩ := rgN (lo := 1) (hi := 200) (by decide) (by decide) ⟨Int32.not_lt.mp c2_1, Int32.not_lt.mp c9_2⟩
          have etp : tn n = pn := by rw [ep, tn, nI_clamp (by omega)]
          have loop : ∀ (d k : Nat) (μ : xH) (rsc : xR), k + d = pn → rsc 1 = (gHours (rs 0) k).2 → (∀ q, q ≠ 1 → rsc q = rs q) → OR U lab μ0 μ shs pa o rsc p un sv → AW U K 5 0 0 Q μ 40 [some (.ref (o 0)), some (.int n), some (.int w), some (.int (gHours (rs 0) k).1), some (.int (nI k))] [] := by
            intro d
            induction d with
            | zero =>
              intro k μ rsc hk h1 hr hO
              obtain rfl : pn = k := by omega
              refine aw_iload X dX4_ifPassed_40 rfl ?_
              refine aw_iload_n X dX4_ifPassed_42 rfl ?_
              refine aw_icmp_ge_t (tgt := 62) X dX4_ifPassed_43 (by decide) (by rw [ep]; exact Int32.le_refl _) ?_
              refine aw_iload_n X dX4_ifPassed_62 rfl ?_
              by_cases s63_6 : w = 0
              · refine aw_tableV (tgt := 88) X (0) s63_6 dX4_ifPassed_63 (by decide) (by decide) rfl (by decide) ?_
                refine aw_iload_n X dX4_ifPassed_88 rfl ?_
                have h0 : rsc 0 = rs 0 := hr 0 (by decide)
                exact aw_iret X hQ dX4_ifPassed_89 ⟨congrArg (fun q => some (Value.int q)) (by rw [cIfP, if_neg (fun q => q.elim c2_1 (fun q => q.elim c9_2 (fun q => q.elim c13_3 (fun q => Int32.not_lt.mpr c18_4 q)))), etp, if_pos s63_6]), rsc, hr, hO⟩
              by_cases s63_7 : w = 1
              · refine aw_tableV (tgt := 90) X (1) s63_7 dX4_ifPassed_63 (by decide) (by decide) rfl (by decide) ?_
                refine aw_aload_n X dX4_ifPassed_90 rfl ?_
                refine aw_oget X hO f_X4_16 rfl dX4_ifPassed_91 ?_
                refine aw_jget X (hO.jr 1 (by decide)) f_X4_179 rfl dX4_ifPassed_94 ?_
                refine aw_aload_n X dX4_ifPassed_97 rfl ?_
                refine aw_oget X hO f_X4_10 rfl dX4_ifPassed_98 ?_
                refine aw_jget X (hO.jr 0 (by decide)) f_X4_179 rfl dX4_ifPassed_101 ?_
                refine aw_isub X dX4_ifPassed_104 ?_
                have h0 : rsc 0 = rs 0 := hr 0 (by decide)
                exact aw_iret X hQ dX4_ifPassed_105 ⟨congrArg (fun q => some (Value.int q)) (by rw [cIfP, if_neg (fun q => q.elim c2_1 (fun q => q.elim c9_2 (fun q => q.elim c13_3 (fun q => Int32.not_lt.mpr c18_4 q)))), etp, if_neg s63_6, if_pos s63_7]; rw [h1, h0]), rsc, hr, hO⟩
              by_cases s63_8 : w = 2
              · refine aw_tableV (tgt := 106) X (2) s63_8 dX4_ifPassed_63 (by decide) (by decide) rfl (by decide) ?_
                refine aw_aload_n X dX4_ifPassed_106 rfl ?_
                refine aw_oget X hO f_X4_16 rfl dX4_ifPassed_107 ?_
                refine aw_cVF (As := []) X (c_X1_allSpoilt (kl K) U _ (shs 1) _ (hO.jr 1 (by decide)).1 ) s_X4_182 k_X1_allSpoilt (by decide) ⟨rfl, rfl⟩ ⟨Nat.zero_le _, Nat.zero_le _⟩ rfl (by exact Nat.le_of_ble_eq_true rfl) (hO.jr 1 (by decide)).g0 rfl dX4_ifPassed_110 ?_
                refine aw_aload_n X dX4_ifPassed_113 rfl ?_
                refine aw_oget X hO f_X4_10 rfl dX4_ifPassed_114 ?_
                refine aw_cVF (As := []) X (c_X1_allSpoilt (kl K) U _ (shs 0) _ (hO.jr 0 (by decide)).1 ) s_X4_182 k_X1_allSpoilt (by decide) ⟨rfl, rfl⟩ ⟨Nat.zero_le _, Nat.zero_le _⟩ rfl (by exact Nat.le_of_ble_eq_true rfl) (hO.jr 0 (by decide)).g0 rfl dX4_ifPassed_117 ?_
                refine aw_isub X dX4_ifPassed_120 ?_
                have h0 : rsc 0 = rs 0 := hr 0 (by decide)
                exact aw_iret X hQ dX4_ifPassed_121 ⟨congrArg (fun q => some (Value.int q)) (by rw [cIfP, if_neg (fun q => q.elim c2_1 (fun q => q.elim c9_2 (fun q => q.elim c13_3 (fun q => Int32.not_lt.mpr c18_4 q)))), etp, if_neg s63_6, if_neg s63_7, if_pos s63_8]; rw [h1, h0]), rsc, hr, hO⟩
              refine aw_tableOut (tgt := 122) X dX4_ifPassed_63 (by have h0 := lv_neT (a := 0) s63_6 (by decide); have h1 := lv_neT (a := 1) s63_7 (by decide); have h2 := lv_neT (a := 2) s63_8 (by decide); omega) (by decide) ?_
              refine aw_aload_n X dX4_ifPassed_122 rfl ?_
              refine aw_oget X hO f_X4_16 rfl dX4_ifPassed_123 ?_
              refine aw_jget X (hO.jr 1 (by decide)) f_X4_185 rfl dX4_ifPassed_126 ?_
              refine aw_aload_n X dX4_ifPassed_129 rfl ?_
              refine aw_oget X hO f_X4_10 rfl dX4_ifPassed_130 ?_
              refine aw_jget X (hO.jr 0 (by decide)) f_X4_185 rfl dX4_ifPassed_133 ?_
              refine aw_isub X dX4_ifPassed_136 ?_
              have h0 : rsc 0 = rs 0 := hr 0 (by decide)
              exact aw_iret X hQ dX4_ifPassed_137 ⟨congrArg (fun q => some (Value.int q)) (by rw [cIfP, if_neg (fun q => q.elim c2_1 (fun q => q.elim c9_2 (fun q => q.elim c13_3 (fun q => Int32.not_lt.mpr c18_4 q)))), etp, if_neg s63_6, if_neg s63_7, if_neg s63_8]; rw [h1, h0]), rsc, hr, hO⟩
            | succ d ih =>
              intro k μ rsc hk h1 hr hO
              refine aw_iload X dX4_ifPassed_40 rfl ?_
              refine aw_iload_n X dX4_ifPassed_42 rfl ?_
              refine aw_icmp_ge_f (tgt := 62) X dX4_ifPassed_43 (by decide) (by rw [ep]; exact nI_ge (by omega) (by omega)) ?_
              refine aw_iload_n X dX4_ifPassed_46 rfl ?_
              refine aw_aload_n X dX4_ifPassed_47 rfl ?_
              refine aw_oget X hO f_X4_16 rfl dX4_ifPassed_48 ?_
              refine aw_cVJ (As := []) X (hO.jr 1 (by decide)) (c_X1_nextHour (kl K) U _ (shs 1) _ (hO.J 1 (by decide))  ) s_X4_166 k_X1_nextHour (by decide) ⟨rfl, rfl⟩ ⟨Nat.zero_le _, Nat.zero_le _⟩ rfl (by exact Nat.le_of_ble_eq_true rfl) (hO.jr 1 (by decide)).g0 rfl dX4_ifPassed_51 (fun μ z_6 ez_6 hJ => ?_)
              have hO := hO.upJ 1 (by decide) hJ
              obtain ⟨rs_6, ers_6⟩ : ∃ q : xR, q = rup rsc 1 z_6 := ⟨_, rfl⟩
              rw [← ers_6] at hO
              have hr : ∀ q, q ≠ 1 → rs_6 q = rs q := fun q hq => by rw [ers_6]; exact (rup_n hq).trans (hr q hq)
              have h1_rs_6 : rs_6 1 = z_6 := by rw [ers_6, rup_s]
              refine aw_iadd X dX4_ifPassed_54 ?_
              refine aw_istore_n X dX4_ifPassed_55 rfl (by decide) ?_
              refine aw_iinc X (1) dX4_ifPassed_56 rfl rfl rfl (by decide) ?_
              refine aw_goto (tgt := 40) X dX4_ifPassed_59 (by decide) ?_
              refine aw_sub [some (.ref (o 0)), some (.int n), some (.int w), some (.int (gHours (rs 0) (k + 1)).1), some (.int (nI (k + 1)))] ⟨rfl, rfl, rfl, congrArg (fun q => some (Value.int q)) (by rw [h1]; rfl), congrArg (fun q => some (Value.int q)) (nI_1 k), trivial⟩ ?_
              exact ih (k + 1) μ _ (by omega) (by rw [h1_rs_6, ez_6, h1]; rfl) hr hO
          refine aw_sub [some (.ref (o 0)), some (.int n), some (.int w), some (.int (gHours (rs 0) 0).1), some (.int (nI 0))] ⟨rfl, rfl, rfl, rfl, rfl, trivial⟩ ?_
          exact loop (pn) 0 μ _ (by omega) (by rw [h1_rs_5, ez_5]; rfl) hr hO
        · skip
          refine aw_ldc X dX4_ifPassed_21 a_X4_125 ?_
          exact aw_iret X hQ dX4_ifPassed_23 ⟨congrArg (fun q => some (Value.int q)) (by rw [cIfP, if_pos (Or.inr (Or.inr (Or.inr (Int32.not_le.mp c18_4))))]), rs, fun _ _ => rfl, hO⟩

set_option maxHeartbeats 1000000 in
set_option maxRecDepth 100000 in
theorem c_X4_leastReach (l : Launch) (U : xU) (lab : Nat → Nat) (μ0 : xH) (shs : Nat → Nat → Nat) (pa o : Nat → Nat) (rs : xR) (p : xV) (un : Nat) (sv : Nat → Int32) (hO0 : ORep U lab μ0 shs pa o rs p un sv) (h : Int32) : CtOT l U yX4_leastReach cX4_leastReach 4 (some .int) ({ frames := 5, cells := 0, slots := 0, locals := 109 } : Room) [.ref (o 0), .int h] lab μ0 shs pa o (cLea (rs 0) h) rs p un sv := by
  refine Ct.of [some (.ref (o 0)), some (.int h), none, none] (by decide +kernel) rfl (Nat.le_of_ble_eq_true rfl) (fun K Q X hnm hQ => ?_)
  obtain ⟨μ, hμ, hO⟩ : ∃ μ : xH, μ0 = μ ∧ OR U lab μ0 μ shs pa o rs p un sv := ⟨μ0, rfl, OR.rf hO0⟩
  refine aw_mu hμ ?_
  have hr : ∀ q, q ≠ 1 → rs q = rs q := fun _ _ => rfl
  refine aw_iload_n X dX4_leastReach_0 rfl ?_
  refine aw_cSF (As := [.int _]) X (c_X4_isHose (kl K) U _ _) s_X4_149 k_X4_isHose (by decide) ⟨rfl, rfl⟩ ⟨Nat.zero_le _, Nat.zero_le _⟩ rfl (by exact Nat.le_of_ble_eq_true rfl) dX4_leastReach_1 ?_
  refine aw_b_ne (tgt := 10) X dX4_leastReach_4 (by decide) (fun c4_1 => ?_) (fun c4_1 => ?_)
  · skip
    refine aw_aload_n X dX4_leastReach_10 rfl ?_
    refine aw_oget X hO f_X4_10 rfl dX4_leastReach_11 ?_
    refine aw_jget X (hO.jr 0 (by decide)) f_X4_153 rfl dX4_leastReach_14 ?_
    refine aw_iload_n X dX4_leastReach_17 rfl ?_
    refine aw_hoseAt X (hO.jr 0 (by decide)) (tn h) (isG_tn c4_1) (isG_hv c4_1) dX4_leastReach_18 ?_
    refine aw_cVF (As := []) X (c_X0_isConnected (kl K) U _ (shs 0) _ (hO.jr 0 (by decide)).1 (tn h) (isG_tn c4_1)) s_X4_157 k_X0_isConnected (by decide) ⟨rfl, rfl⟩ ⟨Nat.zero_le _, Nat.zero_le _⟩ rfl (by exact Nat.le_of_ble_eq_true rfl) ((hO.jr 0 (by decide)).gH _ (isG_tn c4_1)) rfl dX4_leastReach_19 ?_
    refine aw_b_ne (tgt := 28) X dX4_leastReach_22 (by decide) (fun c22_2 => ?_) (fun c22_2 => ?_)
    · skip
      refine aw_aload_n X dX4_leastReach_28 rfl ?_
      refine aw_oget X hO f_X4_16 rfl dX4_leastReach_29 ?_
      refine aw_aload_n X dX4_leastReach_32 rfl ?_
      refine aw_oget X hO f_X4_10 rfl dX4_leastReach_33 ?_
      refine aw_cVK (As := [.ref _]) X (hO.jr 1 (by decide)) (c_X1_copyFrom (kl K) U _ (shs 1) _ (hO.J 1 (by decide)) (shs 0) _ (hO.J 0 (by decide)) (hO.ne (by decide) (by decide) (by omega))) s_X4_162 k_X1_copyFrom (by decide) ⟨rfl, rfl⟩ ⟨Nat.zero_le _, Nat.zero_le _⟩ rfl (by exact Nat.le_of_ble_eq_true rfl) (hO.jr 1 (by decide)).g0 rfl dX4_leastReach_36 (fun μ z_3 ez_3 hJ => ?_)
      have hO := hO.upJ 1 (by decide) hJ
      obtain ⟨rs_3, ers_3⟩ : ∃ q : xR, q = rup rs 1 z_3 := ⟨_, rfl⟩
      rw [← ers_3] at hO
      have hr : ∀ q, q ≠ 1 → rs_3 q = rs q := fun q hq => by rw [ers_3]; exact (rup_n hq).trans (hr q hq)
      have h1_rs_3 : rs_3 1 = z_3 := by rw [ers_3, rup_s]
      refine aw_aload_n X dX4_leastReach_39 rfl ?_
      refine aw_oget X hO f_X4_16 rfl dX4_leastReach_40 ?_
      refine aw_jget X (hO.jr 1 (by decide)) f_X4_153 rfl dX4_leastReach_43 ?_
      refine aw_iload_n X dX4_leastReach_46 rfl ?_
      refine aw_hoseAt X (hO.jr 1 (by decide)) (tn h) (isG_tn c4_1) (isG_hv c4_1) dX4_leastReach_47 ?_
      refine aw_astore_n X dX4_leastReach_48 rfl (by decide) ?_
      refine aw_aload_n X dX4_leastReach_49 rfl ?_
      refine aw_iconst X (1) dX4_leastReach_50 rfl ?_
      refine aw_hput X (hO.jr 1 (by decide)) (tn h) (isG_tn c4_1) 6 (by decide) (80 + (tn h)) rfl f_X4_188 (fun _ => by decide) dX4_leastReach_51 (fun μ z_4 ez_4 hJ => ?_)
      have hO := hO.upJ 1 (by decide) hJ
      obtain ⟨rs_4, ers_4⟩ : ∃ q : xR, q = rup rs_3 1 z_4 := ⟨_, rfl⟩
      rw [← ers_4] at hO
      have hr : ∀ q, q ≠ 1 → rs_4 q = rs q := fun q hq => by rw [ers_4]; exact (rup_n hq).trans (hr q hq)
      have h1_rs_4 : rs_4 1 = z_4 := by rw [ers_4, rup_s]
      refine aw_aload_n X dX4_leastReach_54 rfl ?_
      refine aw_bipush X (20) dX4_leastReach_55 rfl ?_
      refine aw_hput X (hO.jr 1 (by decide)) (tn h) (isG_tn c4_1) 0 (by decide) (hz (tn h) 0) rfl f_X4_191 (fun h => absurd h (by decide)) dX4_leastReach_57 (fun μ z_5 ez_5 hJ => ?_)
      have hO := hO.upJ 1 (by decide) hJ
      obtain ⟨rs_5, ers_5⟩ : ∃ q : xR, q = rup rs_4 1 z_5 := ⟨_, rfl⟩
      rw [← ers_5] at hO
      have hr : ∀ q, q ≠ 1 → rs_5 q = rs q := fun q hq => by rw [ers_5]; exact (rup_n hq).trans (hr q hq)
      have h1_rs_5 : rs_5 1 = z_5 := by rw [ers_5, rup_s]
      refine aw_iconst X (0) dX4_leastReach_60 rfl ?_
      refine aw_istore_n X dX4_leastReach_61 rfl (by decide) ?_
      have hB : rs_5 1 = cStr (rs 0) (tn h) := by
        have e1 := h1_rs_5
        rw [e1]
        subst ez_3 ers_3 ez_4 ers_4 ez_5 ers_5
        simp only [rup_s]
        rfl
      have loop : ∀ (d k : Nat) (μ : xH) (rsc : xR), k + d = 200 → rsc 1 = (gHours (cStr (rs 0) (tn h)) k).2 → (∀ q, q ≠ 1 → rsc q = rs q) → OR U lab μ0 μ shs pa o rsc p un sv → AW U K 4 0 0 Q μ 62 [some (.ref (o 0)), some (.int h), some (.ref (shs 1 (7 + tn h))), some (.int (nI k))] [] := by
        intro d
        induction d with
        | zero =>
          intro k μ rsc hk h1 hr hO
          obtain rfl : k = 200 := by omega
          refine aw_iload_n X dX4_leastReach_62 rfl ?_
          refine aw_sipush X (200) dX4_leastReach_63 rfl ?_
          refine aw_icmp_ge_t (tgt := 83) X dX4_leastReach_66 (by decide) (by decide) ?_
          refine aw_aload_n X dX4_leastReach_83 rfl ?_
          refine aw_hget X (hO.jr 1 (by decide)) (tn h) (isG_tn c4_1) f_X4_191 rfl dX4_leastReach_84 ?_
          refine aw_bipush X (120) dX4_leastReach_87 rfl ?_
          refine aw_icmp_le (tgt := 97) X dX4_leastReach_89 (by decide) (fun c89_6 => ?_) (fun c89_6 => ?_)
          · skip
            refine aw_aload_n X dX4_leastReach_97 rfl ?_
            refine aw_hget X (hO.jr 1 (by decide)) (tn h) (isG_tn c4_1) f_X4_191 rfl dX4_leastReach_98 ?_
            rw [h1] at c89_6
            exact aw_iret X hQ dX4_leastReach_101 ⟨congrArg (fun q => some (Value.int q)) (by rw [h1]; rw [cLea, if_neg (by rw [c4_1]; decide), if_neg (by rw [c22_2]; decide), if_neg (Int32.not_lt.mpr c89_6)]), rsc, hr, hO⟩
          · skip
            refine aw_ldc X dX4_leastReach_92 a_X4_94 ?_
            refine aw_goto (tgt := 101) X dX4_leastReach_94 (by decide) ?_
            rw [h1] at c89_6
            exact aw_iret X hQ dX4_leastReach_101 ⟨congrArg (fun q => some (Value.int q)) (by rw [cLea, if_neg (by rw [c4_1]; decide), if_neg (by rw [c22_2]; decide), if_pos (Int32.not_le.mp c89_6)]), rsc, hr, hO⟩
        | succ d ih =>
          intro k μ rsc hk h1 hr hO
          refine aw_iload_n X dX4_leastReach_62 rfl ?_
          refine aw_sipush X (200) dX4_leastReach_63 rfl ?_
          refine aw_icmp_ge_f (tgt := 83) X dX4_leastReach_66 (by decide) (xn_le (N := 200) (by omega) (by decide) rfl) ?_
          refine aw_aload_n X dX4_leastReach_69 rfl ?_
          refine aw_oget X hO f_X4_16 rfl dX4_leastReach_70 ?_
          refine aw_cVJ (As := []) X (hO.jr 1 (by decide)) (c_X1_nextHour (kl K) U _ (shs 1) _ (hO.J 1 (by decide))  ) s_X4_166 k_X1_nextHour (by decide) ⟨rfl, rfl⟩ ⟨Nat.zero_le _, Nat.zero_le _⟩ rfl (by exact Nat.le_of_ble_eq_true rfl) (hO.jr 1 (by decide)).g0 rfl dX4_leastReach_73 (fun μ z_6 ez_6 hJ => ?_)
          have hO := hO.upJ 1 (by decide) hJ
          obtain ⟨rs_6, ers_6⟩ : ∃ q : xR, q = rup rsc 1 z_6 := ⟨_, rfl⟩
          rw [← ers_6] at hO
          have hr : ∀ q, q ≠ 1 → rs_6 q = rs q := fun q hq => by rw [ers_6]; exact (rup_n hq).trans (hr q hq)
          have h1_rs_6 : rs_6 1 = z_6 := by rw [ers_6, rup_s]
          refine aw_pop X dX4_leastReach_76 rfl ?_
          refine aw_iinc X (1) dX4_leastReach_77 rfl rfl rfl (by decide) ?_
          refine aw_goto (tgt := 62) X dX4_leastReach_80 (by decide) ?_
          refine aw_sub [some (.ref (o 0)), some (.int h), some (.ref (shs 1 (7 + tn h))), some (.int (nI (k + 1)))] ⟨rfl, rfl, rfl, congrArg (fun q => some (Value.int q)) (nI_1 k), trivial⟩ ?_
          exact ih (k + 1) μ _ (by omega) (by rw [h1_rs_6, ez_6, h1]; rfl) hr hO
      refine aw_sub [some (.ref (o 0)), some (.int h), some (.ref (shs 1 (7 + tn h))), some (.int (nI 0))] ⟨rfl, rfl, rfl, rfl, trivial⟩ ?_
      exact loop 200 0 μ _ (by omega) (by rw [hB]; rfl) hr hO
    · skip
      refine aw_ldc X dX4_leastReach_25 a_X4_132 ?_
      exact aw_iret X hQ dX4_leastReach_27 ⟨congrArg (fun q => some (Value.int q)) (by rw [cLea, if_neg (by rw [c4_1]; decide), if_pos c22_2]), rs, fun _ _ => rfl, hO⟩
  · skip
    refine aw_ldc X dX4_leastReach_7 a_X4_152 ?_
    exact aw_iret X hQ dX4_leastReach_9 ⟨congrArg (fun q => some (Value.int q)) (by rw [cLea, if_pos c4_1]), rs, fun _ _ => rfl, hO⟩
