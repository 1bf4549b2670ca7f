set_option maxHeartbeats 1000000 in
set_option maxRecDepth 100000 in
theorem c_X5_berth (l : Launch) (U : xU) (μ0 : xH) (ma : Nat → Nat) (m : xV) (hM0 : FRep U μ0 ma 5 FM m) (hiv : IV m) (h80 : ∀ i, i < 4 → m (80 + i) = 0) (hn : Nat) (h6 : m 6 = nI hn) (hb : hn ≤ 9999) (kn : Nat) (hkn : kn ≤ 6) (hk9 : m 940 = nI kn) : CtFR l U yX5_berth cX5_berth 2 (some .int) ({ frames := 4, cells := 0, slots := 0, locals := 88 } : Room) [.ref (ma 0)] μ0 ma 5 FM (mDo (eBer m) (mBer (mRec m kn)) m).1 (mDo (eBer m) (mBer (mRec m kn)) m).2 := by
  refine Ct.of [some (.ref (ma 0)), none] (by decide +kernel) rfl (Nat.le_of_ble_eq_true rfl) (fun K Q X hnm hQ => ?_)
  obtain ⟨μ, hμ, hM⟩ : ∃ μ : xH, μ0 = μ ∧ FR U μ0 μ ma 5 FM m := ⟨μ0, rfl, FR.rf hM0⟩
  refine aw_mu hμ ?_
  refine aw_aload_n X dX5_berth_0 rfl ?_
  refine aw_fgetA X hM 0 (t := 0) (b := 0) (n := 80) rfl f_X5_7 dX5_berth_1 ?_
  refine aw_bipush X (12) dX5_berth_4 rfl ?_
  refine aw_fiald X hM 0 (b := 0) (n := 80) rfl 12 (xin_d rfl) (by decide) dX5_berth_6 ?_
  refine aw_if_eq (tgt := 36) X dX5_berth_7 (by decide) (fun c7_1 => ?_) (fun c7_1 => ?_)
  · skip
    refine aw_ldc X dX5_berth_36 a_X5_108 ?_
    exact aw_iret X hQ dX5_berth_38 ⟨congrArg (fun q => some (Value.int q)) (by simp [mDo, eBer, mBer, c7_1]), hM.to (by simp [mDo, eBer, mBer, c7_1])⟩
  · skip
    refine aw_aload_n X dX5_berth_10 rfl ?_
    refine aw_fgetA X hM 0 (t := 0) (b := 0) (n := 80) rfl f_X5_7 dX5_berth_11 ?_
    refine aw_bipush X (13) dX5_berth_14 rfl ?_
    refine aw_fiald X hM 0 (b := 0) (n := 80) rfl 13 (xin_d rfl) (by decide) dX5_berth_16 ?_
    refine aw_iconst X (1) dX5_berth_17 rfl ?_
    refine aw_icmp_eq (tgt := 36) X dX5_berth_18 (by decide) (fun c18_2 => ?_) (fun c18_2 => ?_)
    · skip
      refine aw_ldc X dX5_berth_36 a_X5_108 ?_
      exact aw_iret X hQ dX5_berth_38 ⟨congrArg (fun q => some (Value.int q)) (by simp [mDo, eBer, mBer, c7_1, c18_2]), hM.to (by simp [mDo, eBer, mBer, c7_1, c18_2])⟩
    · skip
      refine aw_aload_n X dX5_berth_21 rfl ?_
      refine aw_iconst X (1) dX5_berth_22 rfl ?_
      refine aw_aload_n X dX5_berth_23 rfl ?_
      refine aw_fgetA X hM 0 (t := 0) (b := 0) (n := 80) rfl f_X5_7 dX5_berth_24 ?_
      refine aw_bipush X (6) dX5_berth_27 rfl ?_
      refine aw_fiald X hM 0 (b := 0) (n := 80) rfl 6 (xin_d rfl) (by decide) dX5_berth_29 ?_
      refine aw_cVFF (As := [.int _, .int _]) X hM (c_X5_floats (kl K) U _ ma _ hM.1 _ 1 rfl (by decide) _ (hn) h6 (by omega)) s_X5_83 k_X5_floats (by decide) ⟨rfl, rfl⟩ ⟨Nat.zero_le _, Nat.zero_le _⟩ rfl (by exact Nat.le_of_ble_eq_true rfl) rfl dX5_berth_30 ?_
      refine aw_b_ne (tgt := 39) X dX5_berth_33 (by decide) (fun c33_3 => ?_) (fun c33_3 => ?_)
      · skip
        refine aw_aload_n X dX5_berth_39 rfl ?_
        refine aw_cVFK (As := []) X hM (c_X5_record (kl K) U _ ma _ hM.1 kn hkn hk9) s_X5_100 k_X5_record (by decide) ⟨rfl, rfl⟩ ⟨Nat.zero_le _, Nat.zero_le _⟩ rfl (by exact Nat.le_of_ble_eq_true rfl) rfl dX5_berth_40 (fun μ z_4 ez_4 hM => ?_)
        have hr : ∀ j, j < 200 → z_4 j = m j := hivr hkn ez_4
        have hivr1 : IV z_4 := hiv.cg (fun k hk => hr k (by omega))
        have h6r : z_4 6 = nI hn := by rw [hr 6 (by omega)]; exact h6
        have h80r : ∀ i, i < 4 → z_4 (80 + i) = 0 := fun i hi => by rw [hr _ (by omega)]; exact h80 i hi
        refine aw_iconst X (0) dX5_berth_43 rfl ?_
        refine aw_istore_n X dX5_berth_44 rfl (by decide) ?_
        have loop : ∀ (d k : Nat) (μ : xH) (zc : xV) , k + d = 25 → zc = xcp z_4 50 55 k → FR U μ0 μ ma 5 FM zc → AW U K 2 0 0 Q μ 45 [some (.ref (ma 0)), some (.int (nI k))] [] := by
          intro d
          induction d with
          | zero =>
            intro k μ zc hk ezc hM
            have hk : k = 25 := by omega
            subst hk
            refine aw_iload_n X dX5_berth_45 rfl ?_
            refine aw_bipush X (25) dX5_berth_46 rfl ?_
            refine aw_icmp_ge_t (tgt := 75) X dX5_berth_48 (by decide) (by decide) ?_
            refine aw_aload_n X dX5_berth_75 rfl ?_
            refine aw_fgetA X hM 0 (t := 0) (b := 0) (n := 80) rfl f_X5_7 dX5_berth_76 ?_
            refine aw_bipush X (12) dX5_berth_79 rfl ?_
            refine aw_dup2 X dX5_berth_81 rfl rfl ?_
            refine aw_fiald X hM 0 (b := 0) (n := 80) rfl 12 (xin_d rfl) (by decide) dX5_berth_82 ?_
            refine aw_iconst X (1) dX5_berth_83 rfl ?_
            refine aw_isub X dX5_berth_84 ?_
            refine aw_fiast X FM_a hM 0 (b := 0) (n := 80) rfl 12 (xin_d rfl) (by decide) dX5_berth_85 (fun μ z_5 ez_5 hM => ?_)
            refine aw_aload_n X dX5_berth_86 rfl ?_
            refine aw_fgetA X hM 0 (t := 0) (b := 0) (n := 80) rfl f_X5_7 dX5_berth_87 ?_
            refine aw_bipush X (13) dX5_berth_90 rfl ?_
            refine aw_iconst X (1) dX5_berth_92 rfl ?_
            refine aw_fiast X FM_a hM 0 (b := 0) (n := 80) rfl 13 (xin_d rfl) (by decide) dX5_berth_93 (fun μ z_6 ez_6 hM => ?_)
            refine aw_aload_n X dX5_berth_94 rfl ?_
            refine aw_iconst X (0) dX5_berth_95 rfl ?_
            refine aw_cVFF (As := [.int _]) X hM (c_X5_unitsOf (kl K) U _ ma _ hM.1 _ 0 rfl (by decide)) s_X5_49 k_X5_unitsOf (by decide) ⟨rfl, rfl⟩ ⟨Nat.zero_le _, Nat.zero_le _⟩ rfl (by exact Nat.le_of_ble_eq_true rfl) rfl dX5_berth_96 ?_
            exact aw_iret X hQ dX5_berth_99 ⟨congrArg (fun q => some (Value.int q)) (by subst ez_6 ez_5 ezc ez_4; simp [mDo, eBer, mBer, c7_1, c18_2, c33_3]), hM.to (by subst ez_6 ez_5 ezc ez_4; simp [mDo, eBer, mBer, c7_1, c18_2, c33_3])⟩
          | succ d ih =>
            intro k μ zc hk ezc hM
            refine aw_iload_n X dX5_berth_45 rfl ?_
            refine aw_bipush X (25) dX5_berth_46 rfl ?_
            refine aw_icmp_ge_f (tgt := 75) X dX5_berth_48 (by decide) (xn_le (N := 25) (by omega) (by decide) rfl) ?_
            refine aw_aload_n X dX5_berth_51 rfl ?_
            refine aw_fgetA X hM 0 (t := 0) (b := 0) (n := 80) rfl f_X5_7 dX5_berth_52 ?_
            refine aw_bipush X (50) dX5_berth_55 rfl ?_
            refine aw_iload_n X dX5_berth_57 rfl ?_
            refine aw_iadd X dX5_berth_58 ?_
            refine aw_top (nI (50 + k)) (ixn _ rfl) ?_
            refine aw_aload_n X dX5_berth_59 rfl ?_
            refine aw_fgetA X hM 0 (t := 0) (b := 0) (n := 80) rfl f_X5_7 dX5_berth_60 ?_
            refine aw_bipush X (55) dX5_berth_63 rfl ?_
            refine aw_iload_n X dX5_berth_65 rfl ?_
            refine aw_iadd X dX5_berth_66 ?_
            refine aw_top (nI (55 + k)) (ixn _ rfl) ?_
            refine aw_fiald X hM 0 (b := 0) (n := 80) rfl (55 + k) (vp_in_nI (by omega) (by decide)) (by rw [nI_clamp (by omega), Nat.zero_add]) dX5_berth_67 ?_
            refine aw_fiast X FM_a hM 0 (b := 0) (n := 80) rfl (50 + k) (vp_in_nI (by omega) (by decide)) (by rw [nI_clamp (by omega), Nat.zero_add]) dX5_berth_68 (fun μ z_5 ez_5 hM => ?_)
            refine aw_iinc X (1) dX5_berth_69 rfl rfl rfl (by decide) ?_
            refine aw_goto (tgt := 45) X dX5_berth_72 (by decide) ?_
            refine aw_sub [some (.ref (ma 0)), some (.int (nI (k + 1)))] ⟨rfl, congrArg (fun q => some (Value.int q)) (nI_1 k), trivial⟩ ?_
            exact ih (k + 1) μ _ (by omega) (by subst ezc ez_5; exact xcp_st (by omega) (by omega) (by omega)) hM
        refine aw_sub [some (.ref (ma 0)), some (.int (nI 0))] ⟨rfl, rfl, trivial⟩ ?_
        exact loop (25) 0 μ _ (by omega) xcp_0 hM
      · skip
        refine aw_ldc X dX5_berth_36 a_X5_108 ?_
        exact aw_iret X hQ dX5_berth_38 ⟨congrArg (fun q => some (Value.int q)) (by simp [mDo, eBer, mBer, c7_1, c18_2, c33_3]), hM.to (by simp [mDo, eBer, mBer, c7_1, c18_2, c33_3])⟩

set_option maxHeartbeats 1000000 in
set_option maxRecDepth 100000 in
theorem c_X5_leave (l : Launch) (U : xU) (μ0 : xH) (ma : Nat → Nat) (m : xV) (hM0 : FRep U μ0 ma 5 FM m) (hiv : IV m) (h80 : ∀ i, i < 4 → m (80 + i) = 0) (hn : Nat) (h6 : m 6 = nI hn) (hb : hn ≤ 9999) (kn : Nat) (hkn : kn ≤ 6) (hk9 : m 940 = nI kn) : CtFR l U yX5_leave cX5_leave 2 (some .int) ({ frames := 4, cells := 0, slots := 0, locals := 88 } : Room) [.ref (ma 0)] μ0 ma 5 FM (mDo (eLea m) (aLea (mRec m kn)) m).1 (mDo (eLea m) (aLea (mRec m kn)) m).2 := by
  refine Ct.of [some (.ref (ma 0)), none] (by decide +kernel) rfl (Nat.le_of_ble_eq_true rfl) (fun K Q X hnm hQ => ?_)
  have hM := FR.rf hM0
  refine aw_aload_n X dX5_leave_0 rfl ?_
  refine aw_fgetA X hM 0 (t := 0) (b := 0) (n := 80) rfl f_X5_7 dX5_leave_1 ?_
  refine aw_bipush X (13) dX5_leave_4 rfl ?_
  refine aw_fiald X hM 0 (b := 0) (n := 80) rfl 13 (xin_d rfl) (by decide) dX5_leave_6 ?_
  refine aw_if_eq (tgt := 32) X dX5_leave_7 (by decide) (fun c7_1 => ?_) (fun c7_1 => ?_)
  · skip
    refine aw_ldc X dX5_leave_32 a_X5_108 ?_
    exact aw_iret X hQ dX5_leave_34 ⟨congrArg (fun q => some (Value.int q)) (by simp [mDo, eLea, aLea, c7_1]), hM.to (by simp [mDo, eLea, aLea, c7_1])⟩
  · skip
    refine aw_aload_n X dX5_leave_10 rfl ?_
    refine aw_iconst X (0) dX5_leave_11 rfl ?_
    refine aw_aload_n X dX5_leave_12 rfl ?_
    refine aw_fgetA X hM 0 (t := 0) (b := 0) (n := 80) rfl f_X5_7 dX5_leave_13 ?_
    refine aw_bipush X (6) dX5_leave_16 rfl ?_
    refine aw_fiald X hM 0 (b := 0) (n := 80) rfl 6 (xin_d rfl) (by decide) dX5_leave_18 ?_
    refine aw_cVFF (As := [.int _, .int _]) X hM (c_X5_floats (kl K) U _ ma _ hM.1 _ 0 rfl (by decide) _ (hn) h6 (by omega)) s_X5_83 k_X5_floats (by decide) ⟨rfl, rfl⟩ ⟨Nat.zero_le _, Nat.zero_le _⟩ rfl (by exact Nat.le_of_ble_eq_true rfl) rfl dX5_leave_19 ?_
    refine aw_b_eq (tgt := 32) X dX5_leave_22 (by decide) (fun c22_2 => ?_) (fun c22_2 => ?_)
    · skip
      refine aw_ldc X dX5_leave_32 a_X5_108 ?_
      exact aw_iret X hQ dX5_leave_34 ⟨congrArg (fun q => some (Value.int q)) (by simp [mDo, eLea, aLea, c7_1, c22_2]), hM.to (by simp [mDo, eLea, aLea, c7_1, c22_2])⟩
    · skip
      refine aw_aload_n X dX5_leave_25 rfl ?_
      refine aw_cVFF (As := []) X hM (c_X5_connected (kl K) U _ ma _ hM.1 (fun i hi => (hiv.2.2.2.2.2.2.1 i hi).2.2.1)) s_X5_109 k_X5_connected (by decide) ⟨rfl, rfl⟩ ⟨Nat.zero_le _, Nat.zero_le _⟩ rfl (by exact Nat.le_of_ble_eq_true rfl) rfl dX5_leave_26 ?_
      refine aw_if_le (tgt := 35) X dX5_leave_29 (by decide) (fun c29_3 => ?_) (fun c29_3 => ?_)
      · skip
        refine aw_aload_n X dX5_leave_35 rfl ?_
        refine aw_cVFK (As := []) X hM (c_X5_record (kl K) U _ ma _ hM.1 kn hkn hk9) s_X5_100 k_X5_record (by decide) ⟨rfl, rfl⟩ ⟨Nat.zero_le _, Nat.zero_le _⟩ rfl (by exact Nat.le_of_ble_eq_true rfl) rfl dX5_leave_36 (fun μ z_4 ez_4 hM => ?_)
        have hr : ∀ j, j < 200 → z_4 j = m j := hivr hkn ez_4
        have hivr1 : IV z_4 := hiv.cg (fun k hk => hr k (by omega))
        have h6r : z_4 6 = nI hn := by rw [hr 6 (by omega)]; exact h6
        have h80r : ∀ i, i < 4 → z_4 (80 + i) = 0 := fun i hi => by rw [hr _ (by omega)]; exact h80 i hi
        refine aw_aload_n X dX5_leave_39 rfl ?_
        refine aw_iconst X (0) dX5_leave_40 rfl ?_
        refine aw_cVFF (As := [.int _]) X hM (c_X5_unitsOf (kl K) U _ ma _ hM.1 _ 0 rfl (by decide)) s_X5_49 k_X5_unitsOf (by decide) ⟨rfl, rfl⟩ ⟨Nat.zero_le _, Nat.zero_le _⟩ rfl (by exact Nat.le_of_ble_eq_true rfl) rfl dX5_leave_41 ?_
        refine aw_istore_n X dX5_leave_44 rfl (by decide) ?_
        refine aw_aload_n X dX5_leave_45 rfl ?_
        refine aw_fgetA X hM 0 (t := 0) (b := 0) (n := 80) rfl f_X5_7 dX5_leave_46 ?_
        refine aw_bipush X (13) dX5_leave_49 rfl ?_
        refine aw_iconst X (0) dX5_leave_51 rfl ?_
        refine aw_fiast X FM_a hM 0 (b := 0) (n := 80) rfl 13 (xin_d rfl) (by decide) dX5_leave_52 (fun μ z_5 ez_5 hM => ?_)
        refine aw_iload_n X dX5_leave_53 rfl ?_
        exact aw_iret X hQ dX5_leave_54 ⟨congrArg (fun q => some (Value.int q)) (by subst ez_4 ez_5; simp [mDo, eLea, aLea, c7_1, c22_2, c29_3, Int32.not_lt.mpr c29_3]), hM.to (by subst ez_4 ez_5; simp [mDo, eLea, aLea, c7_1, c22_2, c29_3, Int32.not_lt.mpr c29_3])⟩
      · skip
        refine aw_ldc X dX5_leave_32 a_X5_108 ?_
        exact aw_iret X hQ dX5_leave_34 ⟨congrArg (fun q => some (Value.int q)) (by simp [mDo, eLea, aLea, c7_1, c22_2, c29_3, Int32.not_le.mp c29_3]), hM.to (by simp [mDo, eLea, aLea, c7_1, c22_2, c29_3, Int32.not_le.mp c29_3])⟩

set_option maxHeartbeats 1000000 in
set_option maxRecDepth 100000 in
theorem c_X5_reach (l : Launch) (U : xU) (μ0 : xH) (ma : Nat → Nat) (m : xV) (hM0 : FRep U μ0 ma 5 FM m) (hiv : IV m) (h80 : ∀ i, i < 4 → m (80 + i) = 0) (hn : Nat) (h6 : m 6 = nI hn) (hb : hn ≤ 9999) (kn : Nat) (hkn : kn ≤ 6) (hk9 : m 940 = nI kn) (h v : Int32) : CtFR l U yX5_reach cX5_reach 4 (some .int) ({ frames := 2, cells := 0, slots := 0, locals := 42 } : Room) [.ref (ma 0), .int h, .int v] μ0 ma 5 FM (mDo (eRea h v) (aRea (mRec m kn) h v) m).1 (mDo (eRea h v) (aRea (mRec m kn) h v) m).2 := by
  refine Ct.of [some (.ref (ma 0)), some (.int h), some (.int v), none] (by decide +kernel) rfl (Nat.le_of_ble_eq_true rfl) (fun K Q X hnm hQ => ?_)
  have hM := FR.rf hM0
  refine aw_iload_n X dX5_reach_0 rfl ?_
  refine aw_cSF (As := [.int _]) X (c_X5_isHose (kl K) U _ _) s_X5_112 k_X5_isHose (by decide) ⟨rfl, rfl⟩ ⟨Nat.zero_le _, Nat.zero_le _⟩ rfl (by exact Nat.le_of_ble_eq_true rfl) dX5_reach_1 ?_
  refine aw_b_ne (tgt := 10) X dX5_reach_4 (by decide) (fun c4_1 => ?_) (fun c4_1 => ?_)
  · skip
    refine aw_iload_n X dX5_reach_10 rfl ?_
    refine aw_bipush X (20) dX5_reach_11 rfl ?_
    refine aw_bipush X (120) dX5_reach_13 rfl ?_
    refine aw_cSF (As := [.int _, .int _, .int _]) X (c_X5_in (kl K) U _ _ _ _) s_X5_59 k_X5_in (by decide) ⟨rfl, rfl⟩ ⟨Nat.zero_le _, Nat.zero_le _⟩ rfl (by exact Nat.le_of_ble_eq_true rfl) dX5_reach_15 ?_
    refine aw_top (bI (inB v (20 : Int32) (120 : Int32))) rfl ?_
    refine aw_b_ne (tgt := 24) X dX5_reach_18 (by decide) (fun c18_2 => ?_) (fun c18_2 => ?_)
    · skip
      refine aw_aload_n X dX5_reach_24 rfl ?_
      refine aw_cVFK (As := []) X hM (c_X5_record (kl K) U _ ma _ hM.1 kn hkn hk9) s_X5_100 k_X5_record (by decide) ⟨rfl, rfl⟩ ⟨Nat.zero_le _, Nat.zero_le _⟩ rfl (by exact Nat.le_of_ble_eq_true rfl) rfl dX5_reach_25 (fun μ z_3 ez_3 hM => ?_)
      have hr : ∀ j, j < 200 → z_3 j = m j := hivr hkn ez_3
      have hivr1 : IV z_3 := hiv.cg (fun k hk => hr k (by omega))
      have h6r : z_3 6 = nI hn := by rw [hr 6 (by omega)]; exact h6
      have h80r : ∀ i, i < 4 → z_3 (80 + i) = 0 := fun i hi => by rw [hr _ (by omega)]; exact h80 i hi
      refine aw_aload_n X dX5_reach_28 rfl ?_
      refine aw_iload_n X dX5_reach_29 rfl ?_
      refine aw_iconst X (0) dX5_reach_30 rfl ?_
      refine aw_cVFF (As := [.int _, .int _]) X hM (c_X5_hoseOf (kl K) U _ ma _ hM.1 _ _ (tn h) 0 (isG_hv c4_1) rfl (isG_tn c4_1) (by decide)) s_X5_63 k_X5_hoseOf (by decide) ⟨rfl, rfl⟩ ⟨Nat.zero_le _, Nat.zero_le _⟩ rfl (by exact Nat.le_of_ble_eq_true rfl) rfl dX5_reach_31 ?_
      refine aw_istore_n X dX5_reach_34 rfl (by decide) ?_
      refine aw_aload_n X dX5_reach_35 rfl ?_
      refine aw_iload_n X dX5_reach_36 rfl ?_
      refine aw_iconst X (0) dX5_reach_37 rfl ?_
      refine aw_iload_n X dX5_reach_38 rfl ?_
      refine aw_cVFK (As := [.int _, .int _, .int _]) X hM (c_X5_setHose (kl K) U _ ma _ hM.1 _ _ _ (tn h) 0 (isG_hv c4_1) rfl (isG_tn c4_1) (by decide)) s_X5_32 k_X5_setHose (by decide) ⟨rfl, rfl⟩ ⟨Nat.zero_le _, Nat.zero_le _⟩ rfl (by exact Nat.le_of_ble_eq_true rfl) rfl dX5_reach_39 (fun μ z_4 ez_4 hM => ?_)
      refine aw_iload_n X dX5_reach_42 rfl ?_
      exact aw_iret X hQ dX5_reach_43 ⟨congrArg (fun q => some (Value.int q)) (by subst ez_3 ez_4; simp [mDo, eRea, aRea, c4_1, c18_2]), hM.to (by subst ez_3 ez_4; simp [mDo, eRea, aRea, c4_1, c18_2])⟩
    · skip
      refine aw_ldc X dX5_reach_21 a_X5_99 ?_
      exact aw_iret X hQ dX5_reach_23 ⟨congrArg (fun q => some (Value.int q)) (by simp [mDo, eRea, aRea, c4_1, c18_2]), hM.to (by simp [mDo, eRea, aRea, c4_1, c18_2])⟩
  · skip
    refine aw_ldc X dX5_reach_7 a_X5_115 ?_
    exact aw_iret X hQ dX5_reach_9 ⟨congrArg (fun q => some (Value.int q)) (by simp [mDo, eRea, aRea, c4_1]), hM.to (by simp [mDo, eRea, aRea, c4_1])⟩
