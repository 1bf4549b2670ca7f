set_option maxHeartbeats 1000000 in
set_option maxRecDepth 100000 in
theorem c_X5_boom (l : Launch) (U : xU) (μ0 : xH) (ma : Nat → Nat) (m : xV) (hM0 : FRep U μ0 ma 5 FM m) (hiv : IV m) (h80 : ∀ i, i < 4 → m (80 + i) = 0) (hn : Nat) (h6 : m 6 = nI hn) (hb : hn ≤ 9999) (kn : Nat) (hkn : kn ≤ 6) (hk9 : m 940 = nI kn) (b : Int32) (hxb : xz b) : CtFR l U yX5_boom cX5_boom 3 (some .int) ({ frames := 1, cells := 0, slots := 0, locals := 21 } : Room) [.ref (ma 0), .int b] μ0 ma 5 FM (mDo (eBoo m b) (aBoo (mRec m kn) b) m).1 (mDo (eBoo m b) (aBoo (mRec m kn) b) m).2 := by
  refine Ct.of [some (.ref (ma 0)), some (.int b), none] (by decide +kernel) rfl (Nat.le_of_ble_eq_true rfl) (fun K Q X hnm hQ => ?_)
  have hM := FR.rf hM0
  have h7 := hiv.2.2.2.2.1
  by_cases eb : b = 0
  · subst eb
    refine aw_iload_n X dX5_boom_0 rfl ?_
    refine aw_aload_n X dX5_boom_1 rfl ?_
    refine aw_fgetA X hM 0 (t := 0) (b := 0) (n := 80) rfl f_X5_7 dX5_boom_2 ?_
    refine aw_bipush X (7) dX5_boom_5 rfl ?_
    refine aw_fiald X hM 0 (b := 0) (n := 80) rfl 7 (xin_d rfl) (by decide) dX5_boom_7 ?_
    refine aw_iconst X (1) dX5_boom_8 rfl ?_
    refine aw_icmp_ne (tgt := 16) X dX5_boom_9 (by decide) (fun c9_1 => ?_) (fun c9_1 => ?_)
    · skip
      refine aw_iconst X (0) dX5_boom_16 rfl ?_
      refine aw_icmp_ne_f (tgt := 23) X dX5_boom_17 (by decide) (by decide) ?_
      refine aw_ldc X dX5_boom_20 a_X5_108 ?_
      have e7 : m 7 = 0 := h7.resolve_right c9_1
      exact aw_iret X hQ dX5_boom_22 ⟨congrArg (fun q => some (Value.int q)) (by simp [mDo, eBoo, aBoo, e7, bI]), hM.to (by simp [mDo, eBoo, aBoo, e7, bI])⟩
    · skip
      refine aw_iconst X (1) dX5_boom_12 rfl ?_
      refine aw_goto (tgt := 17) X dX5_boom_13 (by decide) ?_
      refine aw_icmp_ne_t (tgt := 23) X dX5_boom_17 (by decide) (by decide) ?_
      refine aw_aload_n X dX5_boom_23 rfl ?_
      refine aw_cVFK (As := []) X hM (c_X5_record (kl K) U _ ma _ hM.1 kn hkn hk9) s_X5_100 k_X5_record (by decide) ⟨rfl, rfl⟩ ⟨Nat.zero_le _, Nat.zero_le _⟩ rfl (by exact Nat.le_of_ble_eq_true rfl) rfl dX5_boom_24 (fun μ z_2 ez_2 hM => ?_)
      have hr : ∀ j, j < 200 → z_2 j = m j := hivr hkn ez_2
      have hivr1 : IV z_2 := hiv.cg (fun k hk => hr k (by omega))
      have h6r : z_2 6 = nI hn := by rw [hr 6 (by omega)]; exact h6
      have h80r : ∀ i, i < 4 → z_2 (80 + i) = 0 := fun i hi => by rw [hr _ (by omega)]; exact h80 i hi
      refine aw_aload_n X dX5_boom_27 rfl ?_
      refine aw_fgetA X hM 0 (t := 0) (b := 0) (n := 80) rfl f_X5_7 dX5_boom_28 ?_
      refine aw_bipush X (8) dX5_boom_31 rfl ?_
      refine aw_fiald X hM 0 (b := 0) (n := 80) rfl 8 (xin_d rfl) (by decide) dX5_boom_33 ?_
      refine aw_istore_n X dX5_boom_34 rfl (by decide) ?_
      refine aw_aload_n X dX5_boom_35 rfl ?_
      refine aw_fgetA X hM 0 (t := 0) (b := 0) (n := 80) rfl f_X5_7 dX5_boom_36 ?_
      refine aw_bipush X (10) dX5_boom_39 rfl ?_
      refine aw_dup2 X dX5_boom_41 rfl rfl ?_
      refine aw_fiald X hM 0 (b := 0) (n := 80) rfl 10 (xin_d rfl) (by decide) dX5_boom_42 ?_
      refine aw_iload_n X dX5_boom_43 rfl ?_
      refine aw_iadd X dX5_boom_44 ?_
      refine aw_fiast X FM_a hM 0 (b := 0) (n := 80) rfl 10 (xin_d rfl) (by decide) dX5_boom_45 (fun μ z_3 ez_3 hM => ?_)
      refine aw_aload_n X dX5_boom_46 rfl ?_
      refine aw_fgetA X hM 0 (t := 0) (b := 0) (n := 80) rfl f_X5_7 dX5_boom_47 ?_
      refine aw_bipush X (8) dX5_boom_50 rfl ?_
      refine aw_iconst X (0) dX5_boom_52 rfl ?_
      refine aw_fiast X FM_a hM 0 (b := 0) (n := 80) rfl 8 (xin_d rfl) (by decide) dX5_boom_53 (fun μ z_4 ez_4 hM => ?_)
      refine aw_aload_n X dX5_boom_54 rfl ?_
      refine aw_fgetA X hM 0 (t := 0) (b := 0) (n := 80) rfl f_X5_7 dX5_boom_55 ?_
      refine aw_bipush X (7) dX5_boom_58 rfl ?_
      refine aw_iload_n X dX5_boom_60 rfl ?_
      refine aw_bj (tgt := 68) (t2 := 69) X dX5_boom_61 dX5_boom_64 dX5_boom_65 dX5_boom_68 (by decide) (by decide) rfl ?_
      refine aw_fiast X FM_a hM 0 (b := 0) (n := 80) rfl 7 (xin_d rfl) (by decide) dX5_boom_69 (fun μ z_5 ez_5 hM => ?_)
      refine aw_iload_n X dX5_boom_70 rfl ?_
      have e7 : m 7 = 1 := c9_1
      exact aw_iret X hQ dX5_boom_71 ⟨congrArg (fun q => some (Value.int q)) (by subst ez_2 ez_3 ez_4 ez_5; simp [mDo, eBoo, aBoo, e7, bI]), hM.to (by subst ez_2 ez_3 ez_4 ez_5; simp [mDo, eBoo, aBoo, e7, bI])⟩
  have eb : b = 1 := hxb.resolve_left eb
  subst eb
  refine aw_iload_n X dX5_boom_0 rfl ?_
  refine aw_aload_n X dX5_boom_1 rfl ?_
  refine aw_fgetA X hM 0 (t := 0) (b := 0) (n := 80) rfl f_X5_7 dX5_boom_2 ?_
  refine aw_bipush X (7) dX5_boom_5 rfl ?_
  refine aw_fiald X hM 0 (b := 0) (n := 80) rfl 7 (xin_d rfl) (by decide) dX5_boom_7 ?_
  refine aw_iconst X (1) dX5_boom_8 rfl ?_
  refine aw_icmp_ne (tgt := 16) X dX5_boom_9 (by decide) (fun c9_1 => ?_) (fun c9_1 => ?_)
  · skip
    refine aw_iconst X (0) dX5_boom_16 rfl ?_
    refine aw_icmp_ne_t (tgt := 23) X dX5_boom_17 (by decide) (by decide) ?_
    refine aw_aload_n X dX5_boom_23 rfl ?_
    refine aw_cVFK (As := []) X hM (c_X5_record (kl K) U _ ma _ hM.1 kn hkn hk9) s_X5_100 k_X5_record (by decide) ⟨rfl, rfl⟩ ⟨Nat.zero_le _, Nat.zero_le _⟩ rfl (by exact Nat.le_of_ble_eq_true rfl) rfl dX5_boom_24 (fun μ z_2 ez_2 hM => ?_)
    have hr : ∀ j, j < 200 → z_2 j = m j := hivr hkn ez_2
    have hivr1 : IV z_2 := hiv.cg (fun k hk => hr k (by omega))
    have h6r : z_2 6 = nI hn := by rw [hr 6 (by omega)]; exact h6
    have h80r : ∀ i, i < 4 → z_2 (80 + i) = 0 := fun i hi => by rw [hr _ (by omega)]; exact h80 i hi
    refine aw_aload_n X dX5_boom_27 rfl ?_
    refine aw_fgetA X hM 0 (t := 0) (b := 0) (n := 80) rfl f_X5_7 dX5_boom_28 ?_
    refine aw_bipush X (8) dX5_boom_31 rfl ?_
    refine aw_fiald X hM 0 (b := 0) (n := 80) rfl 8 (xin_d rfl) (by decide) dX5_boom_33 ?_
    refine aw_istore_n X dX5_boom_34 rfl (by decide) ?_
    refine aw_aload_n X dX5_boom_35 rfl ?_
    refine aw_fgetA X hM 0 (t := 0) (b := 0) (n := 80) rfl f_X5_7 dX5_boom_36 ?_
    refine aw_bipush X (10) dX5_boom_39 rfl ?_
    refine aw_dup2 X dX5_boom_41 rfl rfl ?_
    refine aw_fiald X hM 0 (b := 0) (n := 80) rfl 10 (xin_d rfl) (by decide) dX5_boom_42 ?_
    refine aw_iload_n X dX5_boom_43 rfl ?_
    refine aw_iadd X dX5_boom_44 ?_
    refine aw_fiast X FM_a hM 0 (b := 0) (n := 80) rfl 10 (xin_d rfl) (by decide) dX5_boom_45 (fun μ z_3 ez_3 hM => ?_)
    refine aw_aload_n X dX5_boom_46 rfl ?_
    refine aw_fgetA X hM 0 (t := 0) (b := 0) (n := 80) rfl f_X5_7 dX5_boom_47 ?_
    refine aw_bipush X (8) dX5_boom_50 rfl ?_
    refine aw_iconst X (0) dX5_boom_52 rfl ?_
    refine aw_fiast X FM_a hM 0 (b := 0) (n := 80) rfl 8 (xin_d rfl) (by decide) dX5_boom_53 (fun μ z_4 ez_4 hM => ?_)
    refine aw_aload_n X dX5_boom_54 rfl ?_
    refine aw_fgetA X hM 0 (t := 0) (b := 0) (n := 80) rfl f_X5_7 dX5_boom_55 ?_
    refine aw_bipush X (7) dX5_boom_58 rfl ?_
    refine aw_iload_n X dX5_boom_60 rfl ?_
    refine aw_bj (tgt := 68) (t2 := 69) X dX5_boom_61 dX5_boom_64 dX5_boom_65 dX5_boom_68 (by decide) (by decide) rfl ?_
    refine aw_fiast X FM_a hM 0 (b := 0) (n := 80) rfl 7 (xin_d rfl) (by decide) dX5_boom_69 (fun μ z_5 ez_5 hM => ?_)
    refine aw_iload_n X dX5_boom_70 rfl ?_
    have e7 : m 7 = 0 := h7.resolve_right c9_1
    exact aw_iret X hQ dX5_boom_71 ⟨congrArg (fun q => some (Value.int q)) (by subst ez_2 ez_3 ez_4 ez_5; simp [mDo, eBoo, aBoo, e7, bI]), hM.to (by subst ez_2 ez_3 ez_4 ez_5; simp [mDo, eBoo, aBoo, e7, bI])⟩
  · skip
    refine aw_iconst X (1) dX5_boom_12 rfl ?_
    refine aw_goto (tgt := 17) X dX5_boom_13 (by decide) ?_
    refine aw_icmp_ne_f (tgt := 23) X dX5_boom_17 (by decide) (by decide) ?_
    refine aw_ldc X dX5_boom_20 a_X5_108 ?_
    have e7 : m 7 = 1 := c9_1
    exact aw_iret X hQ dX5_boom_22 ⟨congrArg (fun q => some (Value.int q)) (by simp [mDo, eBoo, aBoo, e7, bI]), hM.to (by simp [mDo, eBoo, aBoo, e7, bI])⟩

set_option maxHeartbeats 1000000 in
set_option maxRecDepth 100000 in
theorem c_X5_draw (l : Launch) (U : xU) (μ0 : xH) (ma : Nat → Nat) (m : xV) (hM0 : FRep U μ0 ma 5 FM m) (hiv : IV m) (h80 : ∀ i, i < 4 → m (80 + i) = 0) (hn : Nat) (h6 : m 6 = nI hn) (hb : hn ≤ 9999) (kn : Nat) (hkn : kn ≤ 6) (hk9 : m 940 = nI kn) (g u : Int32) : CtFR l U yX5_draw cX5_draw 3 (some .int) ({ frames := 2, cells := 0, slots := 0, locals := 42 } : Room) [.ref (ma 0), .int g, .int u] μ0 ma 5 FM (mDo (eDra m g u) (aDra (mRec m kn) g u) m).1 (mDo (eDra m g u) (aDra (mRec m kn) g u) m).2 := by
  refine Ct.of [some (.ref (ma 0)), some (.int g), some (.int u)] (by decide +kernel) rfl (Nat.le_of_ble_eq_true rfl) (fun K Q X hnm hQ => ?_)
  have hM := FR.rf hM0
  refine aw_iload_n X dX5_draw_0 rfl ?_
  refine aw_cSF (As := [.int _]) X (c_X5_isGrade (kl K) U _ _) s_X5_116 k_X5_isGrade (by decide) ⟨rfl, rfl⟩ ⟨Nat.zero_le _, Nat.zero_le _⟩ rfl (by exact Nat.le_of_ble_eq_true rfl) dX5_draw_1 ?_
  refine aw_b_ne (tgt := 10) X dX5_draw_4 (by decide) (fun c4_1 => ?_) (fun c4_1 => ?_)
  · skip
    refine aw_iload_n X dX5_draw_10 rfl ?_
    refine aw_iconst X (1) dX5_draw_11 rfl ?_
    refine aw_sipush X (1000) dX5_draw_12 rfl ?_
    refine aw_cSF (As := [.int _, .int _, .int _]) X (c_X5_in (kl K) U _ _ _ _) s_X5_59 k_X5_in (by decide) ⟨rfl, rfl⟩ ⟨Nat.zero_le _, Nat.zero_le _⟩ rfl (by exact Nat.le_of_ble_eq_true rfl) dX5_draw_15 ?_
    refine aw_top (bI (inB u (1 : Int32) (1000 : Int32))) rfl ?_
    refine aw_b_ne (tgt := 24) X dX5_draw_18 (by decide) (fun c18_2 => ?_) (fun c18_2 => ?_)
    · skip
      refine aw_aload_n X dX5_draw_24 rfl ?_
      refine aw_fgetA X hM 0 (t := 0) (b := 0) (n := 80) rfl f_X5_7 dX5_draw_25 ?_
      refine aw_bipush X (14) dX5_draw_28 rfl ?_
      refine aw_iload_n X dX5_draw_30 rfl ?_
      refine aw_iadd X dX5_draw_31 ?_
      refine aw_top (nI (14 + tn g)) (ixg c4_1 _ _ rfl) ?_
      have hgb31 : tn g < 4 := isG_tn c4_1
      refine aw_fiald X hM 0 (b := 0) (n := 80) rfl (14 + tn g) (vp_in_nI (by omega) (by decide)) (by rw [nI_clamp (by omega), Nat.zero_add]) dX5_draw_32 ?_
      refine aw_iload_n X dX5_draw_33 rfl ?_
      refine aw_icmp_ge (tgt := 40) X dX5_draw_34 (by decide) (fun c34_3 => ?_) (fun c34_3 => ?_)
      · skip
        refine aw_aload_n X dX5_draw_40 rfl ?_
        refine aw_cVFK (As := []) X hM (c_X5_record (kl K) U _ ma _ hM.1 kn hkn hk9) s_X5_100 k_X5_record (by decide) ⟨rfl, rfl⟩ ⟨Nat.zero_le _, Nat.zero_le _⟩ rfl (by exact Nat.le_of_ble_eq_true rfl) rfl dX5_draw_41 (fun μ z_4 ez_4 hM => ?_)
        have hr : ∀ j, j < 200 → z_4 j = m j := hivr hkn ez_4
        have hivr1 : IV z_4 := hiv.cg (fun k hk => hr k (by omega))
        have h6r : z_4 6 = nI hn := by rw [hr 6 (by omega)]; exact h6
        have h80r : ∀ i, i < 4 → z_4 (80 + i) = 0 := fun i hi => by rw [hr _ (by omega)]; exact h80 i hi
        refine aw_aload_n X dX5_draw_44 rfl ?_
        refine aw_fgetA X hM 0 (t := 0) (b := 0) (n := 80) rfl f_X5_7 dX5_draw_45 ?_
        refine aw_bipush X (14) dX5_draw_48 rfl ?_
        refine aw_iload_n X dX5_draw_50 rfl ?_
        refine aw_iadd X dX5_draw_51 ?_
        refine aw_top (nI (14 + tn g)) (ixg c4_1 _ _ rfl) ?_
        have hgb51 : tn g < 4 := isG_tn c4_1
        refine aw_dup2 X dX5_draw_52 rfl rfl ?_
        refine aw_fiald X hM 0 (b := 0) (n := 80) rfl (14 + tn g) (vp_in_nI (by omega) (by decide)) (by rw [nI_clamp (by omega), Nat.zero_add]) dX5_draw_53 ?_
        refine aw_iload_n X dX5_draw_54 rfl ?_
        refine aw_isub X dX5_draw_55 ?_
        refine aw_fiast X FM_a hM 0 (b := 0) (n := 80) rfl (14 + tn g) (vp_in_nI (by omega) (by decide)) (by rw [nI_clamp (by omega), Nat.zero_add]) dX5_draw_56 (fun μ z_5 ez_5 hM => ?_)
        refine aw_aload_n X dX5_draw_57 rfl ?_
        refine aw_fgetA X hM 0 (t := 0) (b := 0) (n := 80) rfl f_X5_7 dX5_draw_58 ?_
        refine aw_bipush X (14) dX5_draw_61 rfl ?_
        refine aw_iload_n X dX5_draw_63 rfl ?_
        refine aw_iadd X dX5_draw_64 ?_
        refine aw_top (nI (14 + tn g)) (ixg c4_1 _ _ rfl) ?_
        have hgb64 : tn g < 4 := isG_tn c4_1
        refine aw_fiald X hM 0 (b := 0) (n := 80) rfl (14 + tn g) (vp_in_nI (by omega) (by decide)) (by rw [nI_clamp (by omega), Nat.zero_add]) dX5_draw_65 ?_
        exact aw_iret X hQ dX5_draw_66 ⟨congrArg (fun q => some (Value.int q)) (by subst ez_4 ez_5; simp [mDo, eDra, aDra, upd_s, c4_1, c18_2, c34_3, Int32.not_lt.mpr c34_3]), hM.to (by subst ez_4 ez_5; simp [mDo, eDra, aDra, upd_s, c4_1, c18_2, c34_3, Int32.not_lt.mpr c34_3])⟩
      · skip
        refine aw_ldc X dX5_draw_37 a_X5_108 ?_
        exact aw_iret X hQ dX5_draw_39 ⟨congrArg (fun q => some (Value.int q)) (by simp [mDo, eDra, aDra, upd_s, c4_1, c18_2, c34_3, Int32.not_le.mp c34_3]), hM.to (by simp [mDo, eDra, aDra, upd_s, c4_1, c18_2, c34_3, Int32.not_le.mp c34_3])⟩
    · skip
      refine aw_ldc X dX5_draw_21 a_X5_99 ?_
      exact aw_iret X hQ dX5_draw_23 ⟨congrArg (fun q => some (Value.int q)) (by simp [mDo, eDra, aDra, upd_s, c4_1, c18_2]), hM.to (by simp [mDo, eDra, aDra, upd_s, c4_1, c18_2])⟩
  · skip
    refine aw_ldc X dX5_draw_7 a_X5_115 ?_
    exact aw_iret X hQ dX5_draw_9 ⟨congrArg (fun q => some (Value.int q)) (by simp [mDo, eDra, aDra, upd_s, c4_1]), hM.to (by simp [mDo, eDra, aDra, upd_s, c4_1])⟩

set_option maxHeartbeats 1000000 in
set_option maxRecDepth 100000 in
theorem c_X5_doPass (l : Launch) (U : xU) (μ0 : xH) (ma : Nat → Nat) (m : xV) (hM0 : FRep U μ0 ma 5 FM m) (hiv : IV m) (h80 : ∀ i, i < 4 → m (80 + i) = 0) (hn : Nat) (h6 : m 6 = nI hn) (hb : hn ≤ 9999) (p : Int32) (pn : Nat) (hp : p = nI pn) (hpn : pn ≤ 300) : CtFR l U yX5_doPass cX5_doPass 4 (some .int) ({ frames := 5, cells := 0, slots := 0, locals := 113 } : Room) [.ref (ma 0), .int p] μ0 ma 5 FM (gHours m pn).1 (gHours m pn).2 := by
  refine Ct.of [some (.ref (ma 0)), some (.int p), none, none] (by decide +kernel) rfl (Nat.le_of_ble_eq_true rfl) (fun K Q X hnm hQ => ?_)
  obtain ⟨μ, hμ, hM⟩ : ∃ μ : xH, μ0 = μ ∧ FR U μ0 μ ma 5 FM m := ⟨μ0, rfl, FR.rf hM0⟩
  refine aw_mu hμ ?_
  subst hp
  refine aw_iconst X (0) dX5_doPass_0 rfl ?_
  refine aw_istore_n X dX5_doPass_1 rfl (by decide) ?_
  refine aw_iconst X (0) dX5_doPass_2 rfl ?_
  refine aw_istore_n X dX5_doPass_3 rfl (by decide) ?_
  have loop : ∀ (d k : Nat) (μ : xH) (zc : xV) , k + d = pn → zc = (gHours m k).2 → FR U μ0 μ ma 5 FM zc → AW U K 4 0 0 Q μ 4 [some (.ref (ma 0)), some (.int (nI pn)), some (.int (gHours m k).1), some (.int (nI k))] [] := by
    intro d
    induction d with
    | zero =>
      intro k μ zc hk ezc hM
      have hk : k = pn := by omega
      subst hk
      refine aw_iload_n X dX5_doPass_4 rfl ?_
      refine aw_iload_n X dX5_doPass_5 rfl ?_
      refine aw_icmp_ge_t (tgt := 22) X dX5_doPass_6 (by decide) (Int32.le_refl _) ?_
      refine aw_iload_n X dX5_doPass_22 rfl ?_
      exact aw_iret X hQ dX5_doPass_23 ⟨rfl, hM.to ezc⟩
    | succ d ih =>
      intro k μ zc hk ezc hM
      refine aw_iload_n X dX5_doPass_4 rfl ?_
      refine aw_iload_n X dX5_doPass_5 rfl ?_
      refine aw_icmp_ge_f (tgt := 22) X dX5_doPass_6 (by decide) (nI_ge (by omega) (by omega)) ?_
      have hv : IV zc := by rw [ezc]; exact (hiv.hours k).1
      have h6c : zc 6 = nI (hn + k) := by rw [ezc]; exact gHours_6 h6 k
      have h80c : ∀ i, i < 4 → zc (80 + i) = 0 := fun i hi => by rw [ezc, gHours_o (by omega)]; exact h80 i hi
      refine aw_iload_n X dX5_doPass_9 rfl ?_
      refine aw_aload_n X dX5_doPass_10 rfl ?_
      refine aw_cVFR (As := []) X hM (c_X5_hour (kl K) U _ ma _ hM.1 hv h80c _ h6c (by omega)) s_X5_137 k_X5_hour (by decide) ⟨rfl, rfl⟩ ⟨Nat.zero_le _, Nat.zero_le _⟩ rfl (by exact Nat.le_of_ble_eq_true rfl) rfl dX5_doPass_11 (fun μ z_1 ez_1 hM => ?_)
      refine aw_iadd X dX5_doPass_14 ?_
      refine aw_istore_n X dX5_doPass_15 rfl (by decide) ?_
      refine aw_iinc X (1) dX5_doPass_16 rfl rfl rfl (by decide) ?_
      refine aw_goto (tgt := 4) X dX5_doPass_19 (by decide) ?_
      refine aw_sub [some (.ref (ma 0)), some (.int (nI pn)), some (.int (gHours m (k + 1)).1), some (.int (nI (k + 1)))] ⟨rfl, rfl, congrArg (fun q => some (Value.int q)) (by subst ezc ez_1; rfl), congrArg (fun q => some (Value.int q)) (nI_1 k), trivial⟩ ?_
      exact ih (k + 1) μ _ (by omega) (by subst ezc ez_1; rfl) hM
  refine aw_sub [some (.ref (ma 0)), some (.int (nI pn)), some (.int (gHours m 0).1), some (.int (nI 0))] ⟨rfl, rfl, rfl, rfl, trivial⟩ ?_
  exact loop (pn) 0 μ _ (by omega) rfl hM

theorem inB_mono {v : Int32} (h : inB v 1 48 = true) : inB v 0 48 = true := by
  unfold inB at h ⊢
  simp only [Bool.and_eq_true, decide_eq_true_eq] at h ⊢
  exact ⟨Int32.le_trans (by decide) h.1, h.2⟩
set_option maxHeartbeats 1000000 in
set_option maxRecDepth 100000 in
theorem c_X5_pass (l : Launch) (U : xU) (μ0 : xH) (ma : Nat → Nat) (m : xV) (hM0 : FRep U μ0 ma 5 FM m) (hiv : IV m) (h80 : ∀ i, i < 4 → m (80 + i) = 0) (hn : Nat) (h6 : m 6 = nI hn) (hb : hn ≤ 9999) (kn : Nat) (hkn : kn ≤ 6) (hk9 : m 940 = nI kn) (n : Int32) : CtFR l U yX5_pass cX5_pass 2 (some .int) ({ frames := 6, cells := 0, slots := 0, locals := 136 } : Room) [.ref (ma 0), .int n] μ0 ma 5 FM (mDo (ePas m n) (gHours (mRec m kn) (tn n)) m).1 (mDo (ePas m n) (gHours (mRec m kn) (tn n)) m).2 := by
  refine Ct.of [some (.ref (ma 0)), some (.int n)] (by decide +kernel) rfl (Nat.le_of_ble_eq_true rfl) (fun K Q X hnm hQ => ?_)
  have hM := FR.rf hM0
  refine aw_iload_n X dX5_pass_0 rfl ?_
  refine aw_iconst X (1) dX5_pass_1 rfl ?_
  refine aw_bipush X (48) dX5_pass_2 rfl ?_
  refine aw_cSF (As := [.int _, .int _, .int _]) X (c_X5_in (kl K) U _ _ _ _) s_X5_59 k_X5_in (by decide) ⟨rfl, rfl⟩ ⟨Nat.zero_le _, Nat.zero_le _⟩ rfl (by exact Nat.le_of_ble_eq_true rfl) dX5_pass_4 ?_
  refine aw_top (bI (inB n (1 : Int32) (48 : Int32))) rfl ?_
  refine aw_b_ne (tgt := 13) X dX5_pass_7 (by decide) (fun c7_1 => ?_) (fun c7_1 => ?_)
  · skip
    obtain ⟨pn, hpn, ep, etp⟩ := inB_tn (n := 48) rfl (by decide) (show inB n 0 48 = true from inB_mono c7_1)
    refine aw_aload_n X dX5_pass_13 rfl ?_
    refine aw_fgetA X hM 0 (t := 0) (b := 0) (n := 80) rfl f_X5_7 dX5_pass_14 ?_
    refine aw_bipush X (6) dX5_pass_17 rfl ?_
    refine aw_fiald X hM 0 (b := 0) (n := 80) rfl 6 (xin_d rfl) (by decide) dX5_pass_19 ?_
    refine aw_iload_n X dX5_pass_20 rfl ?_
    refine aw_iadd X dX5_pass_21 ?_
    refine aw_sipush X (9999) dX5_pass_22 rfl ?_
    refine aw_icmp_le (tgt := 31) X dX5_pass_25 (by decide) (fun c25_2 => ?_) (fun c25_2 => ?_)
    · skip
      refine aw_aload_n X dX5_pass_31 rfl ?_
      refine aw_cVFK (As := []) X hM (c_X5_record (kl K) U _ ma _ hM.1 kn hkn hk9) s_X5_100 k_X5_record (by decide) ⟨rfl, rfl⟩ ⟨Nat.zero_le _, Nat.zero_le _⟩ rfl (by exact Nat.le_of_ble_eq_true rfl) rfl dX5_pass_32 (fun μ z_3 ez_3 hM => ?_)
      have hr : ∀ j, j < 200 → z_3 j = m j := hivr hkn ez_3
      have hivr1 : IV z_3 := hiv.cg (fun k hk => hr k (by omega))
      have h6r : z_3 6 = nI hn := by rw [hr 6 (by omega)]; exact h6
      have h80r : ∀ i, i < 4 → z_3 (80 + i) = 0 := fun i hi => by rw [hr _ (by omega)]; exact h80 i hi
      refine aw_aload_n X dX5_pass_35 rfl ?_
      refine aw_iload_n X dX5_pass_36 rfl ?_
      refine aw_cVFR (As := [.int _]) X hM (c_X5_doPass (kl K) U _ ma _ hM.1 hivr1 h80r hn h6r hb _ pn ep (by omega)) s_X5_140 k_X5_doPass (by decide) ⟨rfl, rfl⟩ ⟨Nat.zero_le _, Nat.zero_le _⟩ rfl (by exact Nat.le_of_ble_eq_true rfl) rfl dX5_pass_37 (fun μ z_4 ez_4 hM => ?_)
      exact aw_iret X hQ dX5_pass_40 ⟨congrArg (fun q => some (Value.int q)) (by subst ez_3 ez_4; simp [mDo, ePas, c7_1, c25_2, Int32.not_lt.mpr c25_2, etp]), hM.to (by subst ez_3 ez_4; simp [mDo, ePas, c7_1, c25_2, Int32.not_lt.mpr c25_2, etp])⟩
    · skip
      refine aw_ldc X dX5_pass_28 a_X5_103 ?_
      exact aw_iret X hQ dX5_pass_30 ⟨congrArg (fun q => some (Value.int q)) (by simp [mDo, ePas, c7_1, c25_2, Int32.not_le.mp c25_2, etp]), hM.to (by simp [mDo, ePas, c7_1, c25_2, Int32.not_le.mp c25_2, etp])⟩
  · skip
    refine aw_ldc X dX5_pass_10 a_X5_99 ?_
    exact aw_iret X hQ dX5_pass_12 ⟨congrArg (fun q => some (Value.int q)) (by simp [mDo, ePas, c7_1]), hM.to (by simp [mDo, ePas, c7_1])⟩
