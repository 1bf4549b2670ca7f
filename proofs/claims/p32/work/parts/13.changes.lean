theorem xin_r {x v : Int32} {n : Nat} (e : v = nI n) (hn : n < 2 ^ 31) (h0 : ¬ x < 0) (h1 : x < v) : vp_in x n := by
  obtain ⟨j, hj, rfl⟩ := nI_of h0
  rw [e, nI_ltI hj hn] at h1
  exact vp_in_nI h1 hn
theorem xarr {x v : Int32} (e : v = 0 + (x + 1)) (h0 : ¬ x < 0) (h5 : x < 5) : v = nI (tn v) ∧ tn v < 6 := by
  obtain ⟨j, hj, rfl⟩ := nI_of h0
  rw [show (5 : Int32) = nI 5 from rfl, nI_ltI hj (by decide)] at h5
  rw [nI_1, show (0 : Int32) = nI 0 from rfl, nI_add, Nat.zero_add] at e
  subst e
  rw [tn, nI_clamp (by omega)]
  exact ⟨rfl, by omega⟩
theorem cIsT_in {z : xV} {p : Int32} (h : ¬ cIsT z p = 0) : p = nI (tn p) ∧ tn p < 6 := by
  unfold cIsT at h
  by_cases h0 : p = 0
  · subst h0; decide
  · rw [if_neg h0] at h
    have hb : (decide (0 < p) && decide (p ≤ z 12) && decide (p < 6)) = true := by
      cases hq : (decide (0 < p) && decide (p ≤ z 12) && decide (p < 6))
      · rw [hq] at h; exact absurd rfl h
      · rfl
    simp only [Bool.and_eq_true, decide_eq_true_eq] at hb
    obtain ⟨j, hj, rfl⟩ := nI_of (x := p) (fun q => Int32.lt_irrefl (Int32.lt_trans hb.1.1 q))
    have h6 := hb.2
    rw [show (6 : Int32) = nI 6 from rfl, nI_ltI hj (by decide)] at h6
    rw [tn, nI_clamp hj]
    exact ⟨rfl, h6⟩
theorem xw4 {w : Int32} (h0 : ¬ w < 0) (h7 : w ≤ 7) (h4 : ¬ w = 4) (h5 : ¬ w = 5) (h6 : ¬ w = 6) (h8 : ¬ w = 7) : vp_in w 4 := by
  obtain ⟨j, hj, rfl⟩ := nI_of2 (x := w) (M := 7) (n := 7) rfl h0 h7
  rcases (show j < 4 ∨ j = 4 ∨ j = 5 ∨ j = 6 ∨ j = 7 by omega) with h | rfl | rfl | rfl | rfl
  · exact vp_in_nI h (by decide)
  · exact absurd rfl h4
  · exact absurd rfl h5
  · exact absurd rfl h6
  · exact absurd rfl h8
set_option maxHeartbeats 4000000 in
set_option maxRecDepth 100000 in
theorem c_X1_changeSetting (l : Launch) (U : xU) (μ0 : xH) (sh : Nat → Nat) (z : xV) (hJ0 : JRep U μ0 sh z) (s v : Int32) : CtJ l U yX1_changeSetting cX1_changeSetting 4 (some .int) ({ frames := 0, cells := 0, slots := 0, locals := 0 } : Room) [.ref (sh 0), .int s, .int v] μ0 sh (gSet z s v).1 (gSet z s v).2 := by
  refine Ct.of [some (.ref (sh 0)), some (.int s), some (.int v), none] (by decide +kernel) rfl (Nat.le_of_ble_eq_true rfl) (fun K Q X hnm hQ => ?_)
  have hJ := JR.rf hJ0
  refine aw_iload_n X dX1_changeSetting_0 rfl ?_
  refine aw_if_lt (tgt := 13) X dX1_changeSetting_1 (by decide) (fun c1_1 => ?_) (fun c1_1 => ?_)
  · skip
    refine aw_ldc X dX1_changeSetting_13 a_X1_98 ?_
    exact aw_iret X hQ dX1_changeSetting_15 ⟨congrArg (fun q => some (Value.int q)) (by simp [gSet, c1_1, Int32.not_le.mpr c1_1]), hJ.to (by simp [gSet, c1_1, Int32.not_le.mpr c1_1])⟩
  · skip
    refine aw_iload_n X dX1_changeSetting_4 rfl ?_
    refine aw_aload_n X dX1_changeSetting_5 rfl ?_
    refine aw_jget X hJ f_X1_18 rfl dX1_changeSetting_6 ?_
    refine aw_jlen X hJ 0 (by decide) (v := 6) rfl dX1_changeSetting_9 ?_
    refine aw_icmp_lt (tgt := 16) X dX1_changeSetting_10 (by decide) (fun c10_2 => ?_) (fun c10_2 => ?_)
    · skip
      refine aw_iload_n X dX1_changeSetting_16 rfl ?_
      refine aw_gets X (t := 1) (by decide) (by decide +kernel) dX1_changeSetting_17 ?_
      refine aw_iload_n X dX1_changeSetting_20 rfl ?_
      refine aw_tab X (t := 1) (by decide) (xin_r (n := 6) rfl (by decide) c1_1 c10_2) dX1_changeSetting_21 ?_
      refine aw_icmp_lt (tgt := 34) X dX1_changeSetting_22 (by decide) (fun c22_3 => ?_) (fun c22_3 => ?_)
      · skip
        refine aw_ldc X dX1_changeSetting_34 a_X1_98 ?_
        exact aw_iret X hQ dX1_changeSetting_36 ⟨congrArg (fun q => some (Value.int q)) (by simp [gSet, c1_1, Int32.not_lt.mp c1_1, c10_2, Int32.not_le.mpr c10_2, c22_3, Int32.not_le.mpr c22_3]), hJ.to (by simp [gSet, c1_1, Int32.not_lt.mp c1_1, c10_2, Int32.not_le.mpr c10_2, c22_3, Int32.not_le.mpr c22_3])⟩
      · skip
        refine aw_iload_n X dX1_changeSetting_25 rfl ?_
        refine aw_gets X (t := 2) (by decide) (by decide +kernel) dX1_changeSetting_26 ?_
        refine aw_iload_n X dX1_changeSetting_29 rfl ?_
        refine aw_tab X (t := 2) (by decide) (xin_r (n := 6) rfl (by decide) c1_1 c10_2) dX1_changeSetting_30 ?_
        refine aw_icmp_le (tgt := 37) X dX1_changeSetting_31 (by decide) (fun c31_4 => ?_) (fun c31_4 => ?_)
        · skip
          refine aw_aload_n X dX1_changeSetting_37 rfl ?_
          refine aw_jget X hJ f_X1_18 rfl dX1_changeSetting_38 ?_
          refine aw_iload_n X dX1_changeSetting_41 rfl ?_
          refine aw_jald X hJ 0 (by decide) (tn s) (xin_r (n := 6) rfl (by decide) c1_1 c10_2) (Nat.zero_add _) dX1_changeSetting_42 ?_
          refine aw_istore_n X dX1_changeSetting_43 rfl (by decide) ?_
          refine aw_aload_n X dX1_changeSetting_44 rfl ?_
          refine aw_jget X hJ f_X1_18 rfl dX1_changeSetting_45 ?_
          refine aw_iload_n X dX1_changeSetting_48 rfl ?_
          refine aw_iload_n X dX1_changeSetting_49 rfl ?_
          refine aw_jast X hJ 0 (by decide) (tn s) (xin_r (n := 6) rfl (by decide) c1_1 c10_2) (Nat.zero_add _) dX1_changeSetting_50 (fun μ z_5 ez_5 hJ => ?_)
          refine aw_iload_n X dX1_changeSetting_51 rfl ?_
          exact aw_iret X hQ dX1_changeSetting_52 ⟨congrArg (fun q => some (Value.int q)) (by subst ez_5; simp [gSet, c1_1, Int32.not_lt.mp c1_1, c10_2, Int32.not_le.mpr c10_2, c22_3, Int32.not_lt.mp c22_3, c31_4, Int32.not_lt.mpr c31_4]), hJ.to (by subst ez_5; simp [gSet, c1_1, Int32.not_lt.mp c1_1, c10_2, Int32.not_le.mpr c10_2, c22_3, Int32.not_lt.mp c22_3, c31_4, Int32.not_lt.mpr c31_4])⟩
        · skip
          refine aw_ldc X dX1_changeSetting_34 a_X1_98 ?_
          exact aw_iret X hQ dX1_changeSetting_36 ⟨congrArg (fun q => some (Value.int q)) (by simp [gSet, c1_1, Int32.not_lt.mp c1_1, c10_2, Int32.not_le.mpr c10_2, c22_3, Int32.not_lt.mp c22_3, c31_4, Int32.not_le.mp c31_4]), hJ.to (by simp [gSet, c1_1, Int32.not_lt.mp c1_1, c10_2, Int32.not_le.mpr c10_2, c22_3, Int32.not_lt.mp c22_3, c31_4, Int32.not_le.mp c31_4])⟩
    · skip
      refine aw_ldc X dX1_changeSetting_13 a_X1_98 ?_
      exact aw_iret X hQ dX1_changeSetting_15 ⟨congrArg (fun q => some (Value.int q)) (by simp [gSet, c1_1, Int32.not_lt.mp c1_1, c10_2, Int32.not_lt.mp c10_2]), hJ.to (by simp [gSet, c1_1, Int32.not_lt.mp c1_1, c10_2, Int32.not_lt.mp c10_2])⟩

set_option maxHeartbeats 4000000 in
set_option maxRecDepth 100000 in
theorem c_X1_letArrive (l : Launch) (U : xU) (μ0 : xH) (sh : Nat → Nat) (z : xV) (hJ0 : JRep U μ0 sh z) (a b c d : Int32) : CtJ l U yX1_letArrive cX1_letArrive 6 (some .int) ({ frames := 1, cells := 0, slots := 0, locals := 20 } : Room) [.ref (sh 0), .int a, .int b, .int c, .int d] μ0 sh (gArrive z a b c d).1 (gArrive z a b c d).2 := by
  refine Ct.of [some (.ref (sh 0)), some (.int a), some (.int b), some (.int c), some (.int d), none] (by decide +kernel) rfl (Nat.le_of_ble_eq_true rfl) (fun K Q X hnm hQ => ?_)
  have hJ := JR.rf hJ0
  refine aw_iload_n X dX1_letArrive_0 rfl ?_
  refine aw_cSF (As := [.int _]) X (c_X1_isLoad (kl K) U _ _) s_X1_105 k_X1_isLoad (by decide) ⟨rfl, rfl⟩ ⟨Nat.zero_le _, Nat.zero_le _⟩ rfl (by exact Nat.le_of_ble_eq_true rfl) dX1_letArrive_1 ?_
  refine aw_b_eq (tgt := 40) X dX1_letArrive_4 (by decide) (fun c4_1 => ?_) (fun c4_1 => ?_)
  · skip
    refine aw_ldc X dX1_letArrive_40 a_X1_98 ?_
    exact aw_iret X hQ dX1_letArrive_42 ⟨congrArg (fun q => some (Value.int q)) (by simp [gArrive, c4_1]), hJ.to (by simp [gArrive, c4_1])⟩
  · skip
    refine aw_iload_n X dX1_letArrive_7 rfl ?_
    refine aw_cSF (As := [.int _]) X (c_X1_isLoad (kl K) U _ _) s_X1_105 k_X1_isLoad (by decide) ⟨rfl, rfl⟩ ⟨Nat.zero_le _, Nat.zero_le _⟩ rfl (by exact Nat.le_of_ble_eq_true rfl) dX1_letArrive_8 ?_
    refine aw_b_eq (tgt := 40) X dX1_letArrive_11 (by decide) (fun c11_2 => ?_) (fun c11_2 => ?_)
    · skip
      refine aw_ldc X dX1_letArrive_40 a_X1_98 ?_
      exact aw_iret X hQ dX1_letArrive_42 ⟨congrArg (fun q => some (Value.int q)) (by simp [gArrive, c4_1, c11_2]), hJ.to (by simp [gArrive, c4_1, c11_2])⟩
    · skip
      refine aw_iload_n X dX1_letArrive_14 rfl ?_
      refine aw_cSF (As := [.int _]) X (c_X1_isLoad (kl K) U _ _) s_X1_105 k_X1_isLoad (by decide) ⟨rfl, rfl⟩ ⟨Nat.zero_le _, Nat.zero_le _⟩ rfl (by exact Nat.le_of_ble_eq_true rfl) dX1_letArrive_15 ?_
      refine aw_b_eq (tgt := 40) X dX1_letArrive_18 (by decide) (fun c18_3 => ?_) (fun c18_3 => ?_)
      · skip
        refine aw_ldc X dX1_letArrive_40 a_X1_98 ?_
        exact aw_iret X hQ dX1_letArrive_42 ⟨congrArg (fun q => some (Value.int q)) (by simp [gArrive, c4_1, c11_2, c18_3]), hJ.to (by simp [gArrive, c4_1, c11_2, c18_3])⟩
      · skip
        refine aw_iload X dX1_letArrive_21 rfl ?_
        refine aw_cSF (As := [.int _]) X (c_X1_isLoad (kl K) U _ _) s_X1_105 k_X1_isLoad (by decide) ⟨rfl, rfl⟩ ⟨Nat.zero_le _, Nat.zero_le _⟩ rfl (by exact Nat.le_of_ble_eq_true rfl) dX1_letArrive_23 ?_
        refine aw_b_eq (tgt := 40) X dX1_letArrive_26 (by decide) (fun c26_4 => ?_) (fun c26_4 => ?_)
        · skip
          refine aw_ldc X dX1_letArrive_40 a_X1_98 ?_
          exact aw_iret X hQ dX1_letArrive_42 ⟨congrArg (fun q => some (Value.int q)) (by simp [gArrive, c4_1, c11_2, c18_3, c26_4]), hJ.to (by simp [gArrive, c4_1, c11_2, c18_3, c26_4])⟩
        · skip
          refine aw_iload_n X dX1_letArrive_29 rfl ?_
          refine aw_iload_n X dX1_letArrive_30 rfl ?_
          refine aw_iadd X dX1_letArrive_31 ?_
          refine aw_iload_n X dX1_letArrive_32 rfl ?_
          refine aw_iadd X dX1_letArrive_33 ?_
          refine aw_iload X dX1_letArrive_34 rfl ?_
          refine aw_iadd X dX1_letArrive_36 ?_
          refine aw_if_ne (tgt := 43) X dX1_letArrive_37 (by decide) (fun c37_5 => ?_) (fun c37_5 => ?_)
          · skip
            refine aw_aload_n X dX1_letArrive_43 rfl ?_
            refine aw_jget X hJ f_X1_48 rfl dX1_letArrive_44 ?_
            refine aw_if_lt (tgt := 58) X dX1_letArrive_47 (by decide) (fun c47_6 => ?_) (fun c47_6 => ?_)
            · skip
              refine aw_ldc X dX1_letArrive_58 a_X1_109 ?_
              exact aw_iret X hQ dX1_letArrive_60 ⟨congrArg (fun q => some (Value.int q)) (by simp [gArrive, c4_1, c11_2, c18_3, c26_4, c37_5, c47_6, Int32.not_le.mpr c47_6]), hJ.to (by simp [gArrive, c4_1, c11_2, c18_3, c26_4, c37_5, c47_6, Int32.not_le.mpr c47_6])⟩
            · skip
              refine aw_aload_n X dX1_letArrive_50 rfl ?_
              refine aw_jget X hJ f_X1_48 rfl dX1_letArrive_51 ?_
              refine aw_iconst X (5) dX1_letArrive_54 rfl ?_
              refine aw_icmp_lt (tgt := 61) X dX1_letArrive_55 (by decide) (fun c55_7 => ?_) (fun c55_7 => ?_)
              · skip
                refine aw_aload_n X dX1_letArrive_61 rfl ?_
                refine aw_dup X dX1_letArrive_62 rfl ?_
                refine aw_jget X hJ f_X1_48 rfl dX1_letArrive_63 ?_
                refine aw_iconst X (1) dX1_letArrive_66 rfl ?_
                refine aw_iadd X dX1_letArrive_67 ?_
                refine aw_jput X hJ 7 (by decide) (by decide) 12 rfl f_X1_48 (fun h => absurd h (by decide)) dX1_letArrive_68 (fun μ z_8 ez_8 hJ => ?_)
                refine aw_aload_n X dX1_letArrive_71 rfl ?_
                refine aw_jget X hJ f_X1_40 rfl dX1_letArrive_72 ?_
                refine aw_iconst X (0) dX1_letArrive_75 rfl ?_
                refine aw_aload_n X dX1_letArrive_76 rfl ?_
                refine aw_jget X hJ f_X1_48 rfl dX1_letArrive_77 ?_
                refine aw_iadd X dX1_letArrive_80 ?_
                have hw : z_8 12 = z 12 + 1 := by subst ez_8; exact upd_s
                have hp := xarr (v := 0 + z_8 12) (by rw [hw]) c47_6 c55_7
                refine aw_tankAt X hJ (tn (0 + z_8 12)) hp.2 hp.1 dX1_letArrive_81 ?_
                refine aw_astore X dX1_letArrive_82 rfl (by decide) ?_
                refine aw_aload X dX1_letArrive_84 rfl ?_
                refine aw_tgetU X hJ (tn (0 + z_8 12)) hp.2 f_X1_110 dX1_letArrive_86 ?_
                refine aw_iconst X (0) dX1_letArrive_89 rfl ?_
                refine aw_iload_n X dX1_letArrive_90 rfl ?_
                refine aw_uast X hJ (tn (0 + z_8 12)) hp.2 (tz (tn (0 + z_8 12)) 0) (xin_d rfl) rfl dX1_letArrive_91 (fun μ z_9 ez_9 hJ => ?_)
                refine aw_aload X dX1_letArrive_92 rfl ?_
                refine aw_tgetU X hJ (tn (0 + z_8 12)) hp.2 f_X1_110 dX1_letArrive_94 ?_
                refine aw_iconst X (1) dX1_letArrive_97 rfl ?_
                refine aw_iload_n X dX1_letArrive_98 rfl ?_
                refine aw_uast X hJ (tn (0 + z_8 12)) hp.2 (tz (tn (0 + z_8 12)) 1) (xin_d rfl) rfl dX1_letArrive_99 (fun μ z_10 ez_10 hJ => ?_)
                refine aw_aload X dX1_letArrive_100 rfl ?_
                refine aw_tgetU X hJ (tn (0 + z_8 12)) hp.2 f_X1_110 dX1_letArrive_102 ?_
                refine aw_iconst X (2) dX1_letArrive_105 rfl ?_
                refine aw_iload_n X dX1_letArrive_106 rfl ?_
                refine aw_uast X hJ (tn (0 + z_8 12)) hp.2 (tz (tn (0 + z_8 12)) 2) (xin_d rfl) rfl dX1_letArrive_107 (fun μ z_11 ez_11 hJ => ?_)
                refine aw_aload X dX1_letArrive_108 rfl ?_
                refine aw_tgetU X hJ (tn (0 + z_8 12)) hp.2 f_X1_110 dX1_letArrive_110 ?_
                refine aw_iconst X (3) dX1_letArrive_113 rfl ?_
                refine aw_iload X dX1_letArrive_114 rfl ?_
                refine aw_uast X hJ (tn (0 + z_8 12)) hp.2 (tz (tn (0 + z_8 12)) 3) (xin_d rfl) rfl dX1_letArrive_116 (fun μ z_12 ez_12 hJ => ?_)
                refine aw_aload X dX1_letArrive_117 rfl ?_
                refine aw_aload_n X dX1_letArrive_119 rfl ?_
                refine aw_jget X hJ f_X1_52 rfl dX1_letArrive_120 ?_
                refine aw_tputC X hJ (tn (0 + z_8 12)) hp.2 f_X1_113 dX1_letArrive_123 (fun μ z_13 ez_13 hJ => ?_)
                refine aw_aload_n X dX1_letArrive_126 rfl ?_
                refine aw_jget X hJ f_X1_48 rfl dX1_letArrive_127 ?_
                exact aw_iret X hQ dX1_letArrive_130 ⟨congrArg (fun q => some (Value.int q)) (by subst ez_8 ez_9 ez_10 ez_11 ez_12 ez_13; simp [gArrive, c4_1, c11_2, c18_3, c26_4, c37_5, c47_6, Int32.not_lt.mp c47_6, c55_7, Int32.not_le.mpr c55_7]), hJ.to (by subst ez_8 ez_9 ez_10 ez_11 ez_12 ez_13; simp [gArrive, c4_1, c11_2, c18_3, c26_4, c37_5, c47_6, Int32.not_lt.mp c47_6, c55_7, Int32.not_le.mpr c55_7])⟩
              · skip
                refine aw_ldc X dX1_letArrive_58 a_X1_109 ?_
                exact aw_iret X hQ dX1_letArrive_60 ⟨congrArg (fun q => some (Value.int q)) (by simp [gArrive, c4_1, c11_2, c18_3, c26_4, c37_5, c47_6, Int32.not_lt.mp c47_6, c55_7, Int32.not_lt.mp c55_7]), hJ.to (by simp [gArrive, c4_1, c11_2, c18_3, c26_4, c37_5, c47_6, Int32.not_lt.mp c47_6, c55_7, Int32.not_lt.mp c55_7])⟩
          · skip
            refine aw_ldc X dX1_letArrive_40 a_X1_98 ?_
            exact aw_iret X hQ dX1_letArrive_42 ⟨congrArg (fun q => some (Value.int q)) (by simp [gArrive, c4_1, c11_2, c18_3, c26_4, c37_5]), hJ.to (by simp [gArrive, c4_1, c11_2, c18_3, c26_4, c37_5])⟩

set_option maxHeartbeats 4000000 in
set_option maxRecDepth 100000 in
theorem c_X1_letLeave (l : Launch) (U : xU) (μ0 : xH) (sh : Nat → Nat) (z : xV) (hJ0 : JRep U μ0 sh z) : CtJ l U yX1_letLeave cX1_letLeave 1 (some .int) ({ frames := 3, cells := 0, slots := 0, locals := 65 } : Room) [.ref (sh 0)] μ0 sh (gLeave z).1 (gLeave z).2 := by
  refine Ct.of [some (.ref (sh 0))] (by decide +kernel) rfl (Nat.le_of_ble_eq_true rfl) (fun K Q X hnm hQ => ?_)
  have hJ := JR.rf hJ0
  refine aw_aload_n X dX1_letLeave_0 rfl ?_
  refine aw_jget X hJ f_X1_44 rfl dX1_letLeave_1 ?_
  refine aw_if_eq (tgt := 34) X dX1_letLeave_4 (by decide) (fun c4_1 => ?_) (fun c4_1 => ?_)
  · skip
    refine aw_ldc X dX1_letLeave_34 a_X1_124 ?_
    exact aw_iret X hQ dX1_letLeave_36 ⟨congrArg (fun q => some (Value.int q)) (by simp [gLeave, c4_1]), hJ.to (by simp [gLeave, c4_1])⟩
  · skip
    refine aw_aload_n X dX1_letLeave_7 rfl ?_
    refine aw_aload_n X dX1_letLeave_8 rfl ?_
    refine aw_jget X hJ f_X1_40 rfl dX1_letLeave_9 ?_
    refine aw_iconst X (0) dX1_letLeave_12 rfl ?_
    refine aw_tankAt X hJ (0) (by decide) (by decide) dX1_letLeave_13 ?_
    refine aw_cVF (As := []) X (c_X3_draught (kl K) U _ sh _ hJ.1 (0) (by decide)) s_X1_116 k_X3_draught (by decide) ⟨rfl, rfl⟩ ⟨Nat.zero_le _, Nat.zero_le _⟩ rfl (by exact Nat.le_of_ble_eq_true rfl) (hJ.gT _ (by decide)) rfl dX1_letLeave_14 ?_
    refine aw_aload_n X dX1_letLeave_17 rfl ?_
    refine aw_jget X hJ f_X1_52 rfl dX1_letLeave_18 ?_
    refine aw_cVF (As := [.int _, .int _]) X (c_X1_floatsAt (kl K) U _ sh _ hJ.1 _ _) s_X1_120 k_X1_floatsAt (by decide) ⟨rfl, rfl⟩ ⟨Nat.zero_le _, Nat.zero_le _⟩ rfl (by exact Nat.le_of_ble_eq_true rfl) hJ.g0 rfl dX1_letLeave_21 ?_
    refine aw_b_eq (tgt := 34) X dX1_letLeave_24 (by decide) (fun c24_2 => ?_) (fun c24_2 => ?_)
    · skip
      refine aw_ldc X dX1_letLeave_34 a_X1_124 ?_
      exact aw_iret X hQ dX1_letLeave_36 ⟨congrArg (fun q => some (Value.int q)) (by simp [gLeave, c4_1, c24_2]), hJ.to (by simp [gLeave, c4_1, c24_2])⟩
    · skip
      refine aw_aload_n X dX1_letLeave_27 rfl ?_
      refine aw_cVF (As := []) X (c_X1_connectedHoses (kl K) U _ sh _ hJ.1 ) s_X1_128 k_X1_connectedHoses (by decide) ⟨rfl, rfl⟩ ⟨Nat.zero_le _, Nat.zero_le _⟩ rfl (by exact Nat.le_of_ble_eq_true rfl) hJ.g0 rfl dX1_letLeave_28 ?_
      refine aw_if_le (tgt := 37) X dX1_letLeave_31 (by decide) (fun c31_3 => ?_) (fun c31_3 => ?_)
      · skip
        refine aw_aload_n X dX1_letLeave_37 rfl ?_
        refine aw_iconst X (0) dX1_letLeave_38 rfl ?_
        refine aw_jput X hJ 6 (by decide) (by decide) 13 rfl f_X1_44 (fun _ => by decide) dX1_letLeave_39 (fun μ z_4 ez_4 hJ => ?_)
        refine aw_aload_n X dX1_letLeave_42 rfl ?_
        refine aw_jget X hJ f_X1_40 rfl dX1_letLeave_43 ?_
        refine aw_iconst X (0) dX1_letLeave_46 rfl ?_
        refine aw_tankAt X hJ (0) (by decide) (by decide) dX1_letLeave_47 ?_
        refine aw_cVF (As := []) X (c_X3_allUnits (kl K) U _ sh _ hJ.1 (0) (by decide)) s_X1_125 k_X3_allUnits (by decide) ⟨rfl, rfl⟩ ⟨Nat.zero_le _, Nat.zero_le _⟩ rfl (by exact Nat.le_of_ble_eq_true rfl) (hJ.gT _ (by decide)) rfl dX1_letLeave_48 ?_
        exact aw_iret X hQ dX1_letLeave_51 ⟨congrArg (fun q => some (Value.int q)) (by subst ez_4; simp [gLeave, c4_1, c24_2, c31_3, Int32.not_lt.mpr c31_3]), hJ.to (by subst ez_4; simp [gLeave, c4_1, c24_2, c31_3, Int32.not_lt.mpr c31_3])⟩
      · skip
        refine aw_ldc X dX1_letLeave_34 a_X1_124 ?_
        exact aw_iret X hQ dX1_letLeave_36 ⟨congrArg (fun q => some (Value.int q)) (by simp [gLeave, c4_1, c24_2, c31_3, Int32.not_le.mp c31_3]), hJ.to (by simp [gLeave, c4_1, c24_2, c31_3, Int32.not_le.mp c31_3])⟩

set_option maxHeartbeats 4000000 in
set_option maxRecDepth 100000 in
theorem c_X1_changeReach (l : Launch) (U : xU) (μ0 : xH) (sh : Nat → Nat) (z : xV) (hJ0 : JRep U μ0 sh z) (h v : Int32) : CtJ l U yX1_changeReach cX1_changeReach 4 (some .int) ({ frames := 1, cells := 0, slots := 0, locals := 20 } : Room) [.ref (sh 0), .int h, .int v] μ0 sh (gReach z h v).1 (gReach z h v).2 := by
  refine Ct.of [some (.ref (sh 0)), some (.int h), some (.int v), none] (by decide +kernel) rfl (Nat.le_of_ble_eq_true rfl) (fun K Q X hnm hQ => ?_)
  have hJ := JR.rf hJ0
  refine aw_iload_n X dX1_changeReach_0 rfl ?_
  refine aw_cSNF (As := [.int _]) X (c_X4_isHose (kl K) U _ _) s_X1_131 k_X4_isHose (by decide) ⟨rfl, rfl⟩ ⟨Nat.zero_le _, Nat.zero_le _⟩ rfl (by exact Nat.le_of_ble_eq_true rfl) dX1_changeReach_1 ?_
  refine aw_b_ne (tgt := 10) X dX1_changeReach_4 (by decide) (fun c4_1 => ?_) (fun c4_1 => ?_)
  · skip
    refine aw_iload_n X dX1_changeReach_10 rfl ?_
    refine aw_bipush X (20) dX1_changeReach_11 rfl ?_
    refine aw_icmp_lt (tgt := 22) X dX1_changeReach_13 (by decide) (fun c13_2 => ?_) (fun c13_2 => ?_)
    · skip
      refine aw_ldc X dX1_changeReach_22 a_X1_98 ?_
      exact aw_iret X hQ dX1_changeReach_24 ⟨congrArg (fun q => some (Value.int q)) (by simp [gReach, c4_1, c13_2, Int32.not_le.mpr c13_2]), hJ.to (by simp [gReach, c4_1, c13_2, Int32.not_le.mpr c13_2])⟩
    · skip
      refine aw_iload_n X dX1_changeReach_16 rfl ?_
      refine aw_bipush X (120) dX1_changeReach_17 rfl ?_
      refine aw_icmp_le (tgt := 25) X dX1_changeReach_19 (by decide) (fun c19_3 => ?_) (fun c19_3 => ?_)
      · skip
        refine aw_aload_n X dX1_changeReach_25 rfl ?_
        refine aw_jget X hJ f_X1_34 rfl dX1_changeReach_26 ?_
        refine aw_iload_n X dX1_changeReach_29 rfl ?_
        refine aw_hoseAt X hJ (tn h) (isG_tn c4_1) (isG_hv c4_1) dX1_changeReach_30 ?_
        refine aw_hget X hJ (tn h) (isG_tn c4_1) f_X1_135 rfl dX1_changeReach_31 ?_
        refine aw_istore_n X dX1_changeReach_34 rfl (by decide) ?_
        refine aw_aload_n X dX1_changeReach_35 rfl ?_
        refine aw_jget X hJ f_X1_34 rfl dX1_changeReach_36 ?_
        refine aw_iload_n X dX1_changeReach_39 rfl ?_
        refine aw_hoseAt X hJ (tn h) (isG_tn c4_1) (isG_hv c4_1) dX1_changeReach_40 ?_
        refine aw_iload_n X dX1_changeReach_41 rfl ?_
        refine aw_hput X hJ (tn h) (isG_tn c4_1) 0 (by decide) (hz (tn h) 0) rfl f_X1_135 (fun h => absurd h (by decide)) dX1_changeReach_42 (fun μ z_4 ez_4 hJ => ?_)
        refine aw_iload_n X dX1_changeReach_45 rfl ?_
        exact aw_iret X hQ dX1_changeReach_46 ⟨congrArg (fun q => some (Value.int q)) (by subst ez_4; simp [gReach, c4_1, c13_2, Int32.not_lt.mp c13_2, c19_3, Int32.not_lt.mpr c19_3]), hJ.to (by subst ez_4; simp [gReach, c4_1, c13_2, Int32.not_lt.mp c13_2, c19_3, Int32.not_lt.mpr c19_3])⟩
      · skip
        refine aw_ldc X dX1_changeReach_22 a_X1_98 ?_
        exact aw_iret X hQ dX1_changeReach_24 ⟨congrArg (fun q => some (Value.int q)) (by simp [gReach, c4_1, c13_2, Int32.not_lt.mp c13_2, c19_3, Int32.not_le.mp c19_3]), hJ.to (by simp [gReach, c4_1, c13_2, Int32.not_lt.mp c13_2, c19_3, Int32.not_le.mp c19_3])⟩
  · skip
    refine aw_ldc X dX1_changeReach_7 a_X1_134 ?_
    exact aw_iret X hQ dX1_changeReach_9 ⟨congrArg (fun q => some (Value.int q)) (by simp [gReach, c4_1]), hJ.to (by simp [gReach, c4_1])⟩

set_option maxHeartbeats 4000000 in
set_option maxRecDepth 100000 in
theorem c_X1_connectHose (l : Launch) (U : xU) (μ0 : xH) (sh : Nat → Nat) (z : xV) (hJ0 : JRep U μ0 sh z) (h g : Int32) : CtJ l U yX1_connectHose cX1_connectHose 4 (some .int) ({ frames := 3, cells := 0, slots := 0, locals := 65 } : Room) [.ref (sh 0), .int h, .int g] μ0 sh (gConnect z h g).1 (gConnect z h g).2 := by
  refine Ct.of [some (.ref (sh 0)), some (.int h), some (.int g), none] (by decide +kernel) rfl (Nat.le_of_ble_eq_true rfl) (fun K Q X hnm hQ => ?_)
  have hJ := JR.rf hJ0
  refine aw_iload_n X dX1_connectHose_0 rfl ?_
  refine aw_cSNF (As := [.int _]) X (c_X4_isHose (kl K) U _ _) s_X1_131 k_X4_isHose (by decide) ⟨rfl, rfl⟩ ⟨Nat.zero_le _, Nat.zero_le _⟩ rfl (by exact Nat.le_of_ble_eq_true rfl) dX1_connectHose_1 ?_
  refine aw_b_eq (tgt := 14) X dX1_connectHose_4 (by decide) (fun c4_1 => ?_) (fun c4_1 => ?_)
  · skip
    refine aw_ldc X dX1_connectHose_14 a_X1_134 ?_
    exact aw_iret X hQ dX1_connectHose_16 ⟨congrArg (fun q => some (Value.int q)) (by simp [gConnect, c4_1]), hJ.to (by simp [gConnect, c4_1])⟩
  · skip
    refine aw_iload_n X dX1_connectHose_7 rfl ?_
    refine aw_cSNF (As := [.int _]) X (c_X4_isGrade (kl K) U _ _) s_X1_138 k_X4_isGrade (by decide) ⟨rfl, rfl⟩ ⟨Nat.zero_le _, Nat.zero_le _⟩ rfl (by exact Nat.le_of_ble_eq_true rfl) dX1_connectHose_8 ?_
    refine aw_b_ne (tgt := 17) X dX1_connectHose_11 (by decide) (fun c11_2 => ?_) (fun c11_2 => ?_)
    · skip
      refine aw_aload_n X dX1_connectHose_17 rfl ?_
      refine aw_jget X hJ f_X1_34 rfl dX1_connectHose_18 ?_
      refine aw_iload_n X dX1_connectHose_21 rfl ?_
      refine aw_hoseAt X hJ (tn h) (isG_tn c4_1) (isG_hv c4_1) dX1_connectHose_22 ?_
      refine aw_astore_n X dX1_connectHose_23 rfl (by decide) ?_
      refine aw_aload_n X dX1_connectHose_24 rfl ?_
      refine aw_jget X hJ f_X1_44 rfl dX1_connectHose_25 ?_
      refine aw_if_eq (tgt := 45) X dX1_connectHose_28 (by decide) (fun c28_3 => ?_) (fun c28_3 => ?_)
      · skip
        refine aw_ldc X dX1_connectHose_45 a_X1_124 ?_
        exact aw_iret X hQ dX1_connectHose_47 ⟨congrArg (fun q => some (Value.int q)) (by simp [gConnect, c4_1, c11_2, c28_3]), hJ.to (by simp [gConnect, c4_1, c11_2, c28_3])⟩
      · skip
        refine aw_aload_n X dX1_connectHose_31 rfl ?_
        refine aw_hget X hJ (tn h) (isG_tn c4_1) f_X1_141 rfl dX1_connectHose_32 ?_
        refine aw_if_ne (tgt := 45) X dX1_connectHose_35 (by decide) (fun c35_4 => ?_) (fun c35_4 => ?_)
        · skip
          refine aw_ldc X dX1_connectHose_45 a_X1_124 ?_
          exact aw_iret X hQ dX1_connectHose_47 ⟨congrArg (fun q => some (Value.int q)) (by simp [gConnect, c4_1, c11_2, c28_3, c35_4]), hJ.to (by simp [gConnect, c4_1, c11_2, c28_3, c35_4])⟩
        · skip
          refine aw_aload_n X dX1_connectHose_38 rfl ?_
          refine aw_cVF (As := []) X (c_X0_isConnected (kl K) U _ sh _ hJ.1 (tn h) (isG_tn c4_1)) s_X1_144 k_X0_isConnected (by decide) ⟨rfl, rfl⟩ ⟨Nat.zero_le _, Nat.zero_le _⟩ rfl (by exact Nat.le_of_ble_eq_true rfl) (hJ.gH _ (isG_tn c4_1)) rfl dX1_connectHose_39 ?_
          refine aw_b_eq (tgt := 48) X dX1_connectHose_42 (by decide) (fun c42_5 => ?_) (fun c42_5 => ?_)
          · skip
            refine aw_aload_n X dX1_connectHose_48 rfl ?_
            refine aw_aload_n X dX1_connectHose_49 rfl ?_
            refine aw_jget X hJ f_X1_40 rfl dX1_connectHose_50 ?_
            refine aw_iconst X (0) dX1_connectHose_53 rfl ?_
            refine aw_tankAt X hJ (0) (by decide) (by decide) dX1_connectHose_54 ?_
            refine aw_cVF (As := []) X (c_X3_draught (kl K) U _ sh _ hJ.1 (0) (by decide)) s_X1_116 k_X3_draught (by decide) ⟨rfl, rfl⟩ ⟨Nat.zero_le _, Nat.zero_le _⟩ rfl (by exact Nat.le_of_ble_eq_true rfl) (hJ.gT _ (by decide)) rfl dX1_connectHose_55 ?_
            refine aw_aload_n X dX1_connectHose_58 rfl ?_
            refine aw_jget X hJ f_X1_52 rfl dX1_connectHose_59 ?_
            refine aw_cVF (As := [.int _, .int _]) X (c_X1_heightAt (kl K) U _ sh _ hJ.1 _ _) s_X1_148 k_X1_heightAt (by decide) ⟨rfl, rfl⟩ ⟨Nat.zero_le _, Nat.zero_le _⟩ rfl (by exact Nat.le_of_ble_eq_true rfl) hJ.g0 rfl dX1_connectHose_62 ?_
            refine aw_aload_n X dX1_connectHose_65 rfl ?_
            refine aw_hget X hJ (tn h) (isG_tn c4_1) f_X1_135 rfl dX1_connectHose_66 ?_
            refine aw_icmp_le (tgt := 75) X dX1_connectHose_69 (by decide) (fun c69_6 => ?_) (fun c69_6 => ?_)
            · skip
              refine aw_aload_n X dX1_connectHose_75 rfl ?_
              refine aw_iload_n X dX1_connectHose_76 rfl ?_
              refine aw_hput X hJ (tn h) (isG_tn c4_1) 2 (by decide) (hz (tn h) 2) rfl f_X1_151 (fun h => absurd h (by decide)) dX1_connectHose_77 (fun μ z_7 ez_7 hJ => ?_)
              refine aw_aload_n X dX1_connectHose_80 rfl ?_
              refine aw_cVF (As := []) X (c_X1_connectedHoses (kl K) U _ sh _ hJ.1 ) s_X1_128 k_X1_connectedHoses (by decide) ⟨rfl, rfl⟩ ⟨Nat.zero_le _, Nat.zero_le _⟩ rfl (by exact Nat.le_of_ble_eq_true rfl) hJ.g0 rfl dX1_connectHose_81 ?_
              exact aw_iret X hQ dX1_connectHose_84 ⟨congrArg (fun q => some (Value.int q)) (by subst ez_7; simp [gConnect, c4_1, c11_2, c28_3, c35_4, c42_5, c69_6, Int32.not_lt.mpr c69_6]), hJ.to (by subst ez_7; simp [gConnect, c4_1, c11_2, c28_3, c35_4, c42_5, c69_6, Int32.not_lt.mpr c69_6])⟩
            · skip
              refine aw_ldc X dX1_connectHose_72 a_X1_124 ?_
              exact aw_iret X hQ dX1_connectHose_74 ⟨congrArg (fun q => some (Value.int q)) (by simp [gConnect, c4_1, c11_2, c28_3, c35_4, c42_5, c69_6, Int32.not_le.mp c69_6]), hJ.to (by simp [gConnect, c4_1, c11_2, c28_3, c35_4, c42_5, c69_6, Int32.not_le.mp c69_6])⟩
          · skip
            refine aw_ldc X dX1_connectHose_45 a_X1_124 ?_
            exact aw_iret X hQ dX1_connectHose_47 ⟨congrArg (fun q => some (Value.int q)) (by simp [gConnect, c4_1, c11_2, c28_3, c35_4, c42_5]), hJ.to (by simp [gConnect, c4_1, c11_2, c28_3, c35_4, c42_5])⟩
    · skip
      refine aw_ldc X dX1_connectHose_14 a_X1_134 ?_
      exact aw_iret X hQ dX1_connectHose_16 ⟨congrArg (fun q => some (Value.int q)) (by simp [gConnect, c4_1, c11_2]), hJ.to (by simp [gConnect, c4_1, c11_2])⟩

set_option maxHeartbeats 4000000 in
set_option maxRecDepth 100000 in
theorem c_X1_disconnectHose (l : Launch) (U : xU) (μ0 : xH) (sh : Nat → Nat) (z : xV) (hJ0 : JRep U μ0 sh z) (h : Int32) : CtJ l U yX1_disconnectHose cX1_disconnectHose 4 (some .int) ({ frames := 2, cells := 0, slots := 0, locals := 40 } : Room) [.ref (sh 0), .int h] μ0 sh (gDisconnect z h).1 (gDisconnect z h).2 := by
  refine Ct.of [some (.ref (sh 0)), some (.int h), none, none] (by decide +kernel) rfl (Nat.le_of_ble_eq_true rfl) (fun K Q X hnm hQ => ?_)
  have hJ := JR.rf hJ0
  refine aw_iload_n X dX1_disconnectHose_0 rfl ?_
  refine aw_cSNF (As := [.int _]) X (c_X4_isHose (kl K) U _ _) s_X1_131 k_X4_isHose (by decide) ⟨rfl, rfl⟩ ⟨Nat.zero_le _, Nat.zero_le _⟩ rfl (by exact Nat.le_of_ble_eq_true rfl) dX1_disconnectHose_1 ?_
  refine aw_b_ne (tgt := 10) X dX1_disconnectHose_4 (by decide) (fun c4_1 => ?_) (fun c4_1 => ?_)
  · skip
    refine aw_aload_n X dX1_disconnectHose_10 rfl ?_
    refine aw_jget X hJ f_X1_34 rfl dX1_disconnectHose_11 ?_
    refine aw_iload_n X dX1_disconnectHose_14 rfl ?_
    refine aw_hoseAt X hJ (tn h) (isG_tn c4_1) (isG_hv c4_1) dX1_disconnectHose_15 ?_
    refine aw_astore_n X dX1_disconnectHose_16 rfl (by decide) ?_
    refine aw_aload_n X dX1_disconnectHose_17 rfl ?_
    refine aw_cVF (As := []) X (c_X0_isConnected (kl K) U _ sh _ hJ.1 (tn h) (isG_tn c4_1)) s_X1_144 k_X0_isConnected (by decide) ⟨rfl, rfl⟩ ⟨Nat.zero_le _, Nat.zero_le _⟩ rfl (by exact Nat.le_of_ble_eq_true rfl) (hJ.gH _ (isG_tn c4_1)) rfl dX1_disconnectHose_18 ?_
    refine aw_b_ne (tgt := 27) X dX1_disconnectHose_21 (by decide) (fun c21_2 => ?_) (fun c21_2 => ?_)
    · skip
      refine aw_aload_n X dX1_disconnectHose_27 rfl ?_
      refine aw_hget X hJ (tn h) (isG_tn c4_1) f_X1_151 rfl dX1_disconnectHose_28 ?_
      refine aw_istore_n X dX1_disconnectHose_31 rfl (by decide) ?_
      refine aw_aload_n X dX1_disconnectHose_32 rfl ?_
      refine aw_ldc X dX1_disconnectHose_33 a_X1_154 ?_
      refine aw_hput X hJ (tn h) (isG_tn c4_1) 2 (by decide) (hz (tn h) 2) rfl f_X1_151 (fun h => absurd h (by decide)) dX1_disconnectHose_35 (fun μ z_3 ez_3 hJ => ?_)
      refine aw_iload_n X dX1_disconnectHose_38 rfl ?_
      exact aw_iret X hQ dX1_disconnectHose_39 ⟨congrArg (fun q => some (Value.int q)) (by subst ez_3; simp [gDisconnect, c4_1, c21_2]), hJ.to (by subst ez_3; simp [gDisconnect, c4_1, c21_2])⟩
    · skip
      refine aw_ldc X dX1_disconnectHose_24 a_X1_124 ?_
      exact aw_iret X hQ dX1_disconnectHose_26 ⟨congrArg (fun q => some (Value.int q)) (by simp [gDisconnect, c4_1, c21_2]), hJ.to (by simp [gDisconnect, c4_1, c21_2])⟩
  · skip
    refine aw_ldc X dX1_disconnectHose_7 a_X1_134 ?_
    exact aw_iret X hQ dX1_disconnectHose_9 ⟨congrArg (fun q => some (Value.int q)) (by simp [gDisconnect, c4_1]), hJ.to (by simp [gDisconnect, c4_1])⟩

set_option maxHeartbeats 4000000 in
set_option maxRecDepth 100000 in
theorem c_X1_flushHose (l : Launch) (U : xU) (μ0 : xH) (sh : Nat → Nat) (z : xV) (hJ0 : JRep U μ0 sh z) (h : Int32) : CtJ l U yX1_flushHose cX1_flushHose 5 (some .int) ({ frames := 2, cells := 0, slots := 0, locals := 40 } : Room) [.ref (sh 0), .int h] μ0 sh (gFlush z h).1 (gFlush z h).2 := by
  refine Ct.of [some (.ref (sh 0)), some (.int h), none, none, none] (by decide +kernel) rfl (Nat.le_of_ble_eq_true rfl) (fun K Q X hnm hQ => ?_)
  have hJ := JR.rf hJ0
  refine aw_iload_n X dX1_flushHose_0 rfl ?_
  refine aw_cSNF (As := [.int _]) X (c_X4_isHose (kl K) U _ _) s_X1_131 k_X4_isHose (by decide) ⟨rfl, rfl⟩ ⟨Nat.zero_le _, Nat.zero_le _⟩ rfl (by exact Nat.le_of_ble_eq_true rfl) dX1_flushHose_1 ?_
  refine aw_b_ne (tgt := 10) X dX1_flushHose_4 (by decide) (fun c4_1 => ?_) (fun c4_1 => ?_)
  · skip
    refine aw_aload_n X dX1_flushHose_10 rfl ?_
    refine aw_jget X hJ f_X1_34 rfl dX1_flushHose_11 ?_
    refine aw_iload_n X dX1_flushHose_14 rfl ?_
    refine aw_hoseAt X hJ (tn h) (isG_tn c4_1) (isG_hv c4_1) dX1_flushHose_15 ?_
    refine aw_astore_n X dX1_flushHose_16 rfl (by decide) ?_
    refine aw_aload_n X dX1_flushHose_17 rfl ?_
    refine aw_hget X hJ (tn h) (isG_tn c4_1) f_X1_155 rfl dX1_flushHose_18 ?_
    refine aw_istore_n X dX1_flushHose_21 rfl (by decide) ?_
    refine aw_aload_n X dX1_flushHose_22 rfl ?_
    refine aw_cVF (As := []) X (c_X0_isConnected (kl K) U _ sh _ hJ.1 (tn h) (isG_tn c4_1)) s_X1_144 k_X0_isConnected (by decide) ⟨rfl, rfl⟩ ⟨Nat.zero_le _, Nat.zero_le _⟩ rfl (by exact Nat.le_of_ble_eq_true rfl) (hJ.gH _ (isG_tn c4_1)) rfl dX1_flushHose_23 ?_
    refine aw_b_ne (tgt := 36) X dX1_flushHose_26 (by decide) (fun c26_2 => ?_) (fun c26_2 => ?_)
    · skip
      refine aw_ldc X dX1_flushHose_36 a_X1_124 ?_
      exact aw_iret X hQ dX1_flushHose_38 ⟨congrArg (fun q => some (Value.int q)) (by simp [gFlush, c4_1, c26_2]), hJ.to (by simp [gFlush, c4_1, c26_2])⟩
    · skip
      refine aw_iload_n X dX1_flushHose_29 rfl ?_
      refine aw_cSNF (As := [.int _]) X (c_X4_isGrade (kl K) U _ _) s_X1_138 k_X4_isGrade (by decide) ⟨rfl, rfl⟩ ⟨Nat.zero_le _, Nat.zero_le _⟩ rfl (by exact Nat.le_of_ble_eq_true rfl) dX1_flushHose_30 ?_
      refine aw_b_ne (tgt := 39) X dX1_flushHose_33 (by decide) (fun c33_3 => ?_) (fun c33_3 => ?_)
      · skip
        refine aw_iconst X (5) dX1_flushHose_39 rfl ?_
        refine aw_aload_n X dX1_flushHose_40 rfl ?_
        refine aw_jget X hJ f_X1_23 rfl dX1_flushHose_41 ?_
        refine aw_iload_n X dX1_flushHose_44 rfl ?_
        refine aw_jald X hJ 1 (by decide) (14 + tn (z (hz (tn h) 1))) (isG_in c33_3) (by rfl) dX1_flushHose_45 ?_
        refine aw_min X l_X1_158 (by exact ⟨by decide, Nat.le_of_ble_eq_true rfl⟩) (by decide) dX1_flushHose_46 ?_
        refine aw_istore X dX1_flushHose_49 rfl (by decide) ?_
        refine aw_aload_n X dX1_flushHose_51 rfl ?_
        refine aw_jget X hJ f_X1_23 rfl dX1_flushHose_52 ?_
        refine aw_iload_n X dX1_flushHose_55 rfl ?_
        refine aw_dup2 X dX1_flushHose_56 rfl rfl ?_
        refine aw_jald X hJ 1 (by decide) (14 + tn (z (hz (tn h) 1))) (isG_in c33_3) (by rfl) dX1_flushHose_57 ?_
        refine aw_iload X dX1_flushHose_58 rfl ?_
        refine aw_isub X dX1_flushHose_60 ?_
        refine aw_jast X hJ 1 (by decide) (14 + tn (z (hz (tn h) 1))) (isG_in c33_3) (by rfl) dX1_flushHose_61 (fun μ z_4 ez_4 hJ => ?_)
        refine aw_aload_n X dX1_flushHose_62 rfl ?_
        refine aw_jget X hJ f_X1_26 rfl dX1_flushHose_63 ?_
        refine aw_iload_n X dX1_flushHose_66 rfl ?_
        refine aw_dup2 X dX1_flushHose_67 rfl rfl ?_
        refine aw_jald X hJ 2 (by decide) (18 + tn (z (hz (tn h) 1))) (isG_in c33_3) (by rfl) dX1_flushHose_68 ?_
        refine aw_iload X dX1_flushHose_69 rfl ?_
        refine aw_iadd X dX1_flushHose_71 ?_
        refine aw_jast X hJ 2 (by decide) (18 + tn (z (hz (tn h) 1))) (isG_in c33_3) (by rfl) dX1_flushHose_72 (fun μ z_5 ez_5 hJ => ?_)
        refine aw_aload_n X dX1_flushHose_73 rfl ?_
        refine aw_ldc X dX1_flushHose_74 a_X1_154 ?_
        refine aw_hput X hJ (tn h) (isG_tn c4_1) 1 (by decide) (hz (tn h) 1) rfl f_X1_155 (fun h => absurd h (by decide)) dX1_flushHose_76 (fun μ z_6 ez_6 hJ => ?_)
        refine aw_iload X dX1_flushHose_79 rfl ?_
        exact aw_iret X hQ dX1_flushHose_81 ⟨congrArg (fun q => some (Value.int q)) (by subst ez_4 ez_5 ez_6; simp [gFlush, c4_1, c26_2, c33_3]), hJ.to (by subst ez_4 ez_5 ez_6; simp [gFlush, c4_1, c26_2, c33_3])⟩
      · skip
        refine aw_ldc X dX1_flushHose_36 a_X1_124 ?_
        exact aw_iret X hQ dX1_flushHose_38 ⟨congrArg (fun q => some (Value.int q)) (by simp [gFlush, c4_1, c26_2, c33_3]), hJ.to (by simp [gFlush, c4_1, c26_2, c33_3])⟩
  · skip
    refine aw_ldc X dX1_flushHose_7 a_X1_134 ?_
    exact aw_iret X hQ dX1_flushHose_9 ⟨congrArg (fun q => some (Value.int q)) (by simp [gFlush, c4_1]), hJ.to (by simp [gFlush, c4_1])⟩

set_option maxHeartbeats 4000000 in
set_option maxRecDepth 100000 in
theorem c_X1_mendHose (l : Launch) (U : xU) (μ0 : xH) (sh : Nat → Nat) (z : xV) (hJ0 : JRep U μ0 sh z) (h : Int32) : CtJ l U yX1_mendHose cX1_mendHose 3 (some .int) ({ frames := 1, cells := 0, slots := 0, locals := 22 } : Room) [.ref (sh 0), .int h] μ0 sh (gMend z h).1 (gMend z h).2 := by
  refine Ct.of [some (.ref (sh 0)), some (.int h), none] (by decide +kernel) rfl (Nat.le_of_ble_eq_true rfl) (fun K Q X hnm hQ => ?_)
  have hJ := JR.rf hJ0
  refine aw_iload_n X dX1_mendHose_0 rfl ?_
  refine aw_cSNF (As := [.int _]) X (c_X4_isHose (kl K) U _ _) s_X1_131 k_X4_isHose (by decide) ⟨rfl, rfl⟩ ⟨Nat.zero_le _, Nat.zero_le _⟩ rfl (by exact Nat.le_of_ble_eq_true rfl) dX1_mendHose_1 ?_
  refine aw_b_ne (tgt := 10) X dX1_mendHose_4 (by decide) (fun c4_1 => ?_) (fun c4_1 => ?_)
  · skip
    refine aw_aload_n X dX1_mendHose_10 rfl ?_
    refine aw_jget X hJ f_X1_34 rfl dX1_mendHose_11 ?_
    refine aw_iload_n X dX1_mendHose_14 rfl ?_
    refine aw_hoseAt X hJ (tn h) (isG_tn c4_1) (isG_hv c4_1) dX1_mendHose_15 ?_
    refine aw_astore_n X dX1_mendHose_16 rfl (by decide) ?_
    refine aw_aload_n X dX1_mendHose_17 rfl ?_
    refine aw_hget X hJ (tn h) (isG_tn c4_1) f_X1_141 rfl dX1_mendHose_18 ?_
    refine aw_if_ne (tgt := 27) X dX1_mendHose_21 (by decide) (fun c21_2 => ?_) (fun c21_2 => ?_)
    · skip
      refine aw_aload_n X dX1_mendHose_27 rfl ?_
      refine aw_iconst X (0) dX1_mendHose_28 rfl ?_
      refine aw_hput X hJ (tn h) (isG_tn c4_1) 3 (by decide) (hz (tn h) 3) rfl f_X1_141 (fun _ => by decide) dX1_mendHose_29 (fun μ z_3 ez_3 hJ => ?_)
      refine aw_aload_n X dX1_mendHose_32 rfl ?_
      refine aw_ldc X dX1_mendHose_33 a_X1_154 ?_
      refine aw_hput X hJ (tn h) (isG_tn c4_1) 1 (by decide) (hz (tn h) 1) rfl f_X1_155 (fun h => absurd h (by decide)) dX1_mendHose_35 (fun μ z_4 ez_4 hJ => ?_)
      refine aw_aload_n X dX1_mendHose_38 rfl ?_
      refine aw_cVF (As := []) X (c_X1_burstHoses (kl K) U _ sh _ hJ.1 ) s_X1_161 k_X1_burstHoses (by decide) ⟨rfl, rfl⟩ ⟨Nat.zero_le _, Nat.zero_le _⟩ rfl (by exact Nat.le_of_ble_eq_true rfl) hJ.g0 rfl dX1_mendHose_39 ?_
      exact aw_iret X hQ dX1_mendHose_42 ⟨congrArg (fun q => some (Value.int q)) (by subst ez_3 ez_4; simp [gMend, c4_1, c21_2]), hJ.to (by subst ez_3 ez_4; simp [gMend, c4_1, c21_2])⟩
    · skip
      refine aw_ldc X dX1_mendHose_24 a_X1_124 ?_
      exact aw_iret X hQ dX1_mendHose_26 ⟨congrArg (fun q => some (Value.int q)) (by simp [gMend, c4_1, c21_2]), hJ.to (by simp [gMend, c4_1, c21_2])⟩
  · skip
    refine aw_ldc X dX1_mendHose_7 a_X1_134 ?_
    exact aw_iret X hQ dX1_mendHose_9 ⟨congrArg (fun q => some (Value.int q)) (by simp [gMend, c4_1]), hJ.to (by simp [gMend, c4_1])⟩

set_option maxHeartbeats 4000000 in
set_option maxRecDepth 100000 in
theorem c_X1_changeBoom (l : Launch) (U : xU) (μ0 : xH) (sh : Nat → Nat) (z : xV) (hJ0 : JRep U μ0 sh z) (b : Int32) (hb : xz b) : CtJ l U yX1_changeBoom cX1_changeBoom 3 (some .int) ({ frames := 0, cells := 0, slots := 0, locals := 0 } : Room) [.ref (sh 0), .int b] μ0 sh (gBoom z b).1 (gBoom z b).2 := by
  refine Ct.of [some (.ref (sh 0)), some (.int b), none] (by decide +kernel) rfl (Nat.le_of_ble_eq_true rfl) (fun K Q X hnm hQ => ?_)
  have hJ := JR.rf hJ0
  refine aw_aload_n X dX1_changeBoom_0 rfl ?_
  refine aw_jget X hJ f_X1_55 rfl dX1_changeBoom_1 ?_
  refine aw_iload_n X dX1_changeBoom_4 rfl ?_
  refine aw_icmp_ne (tgt := 11) X dX1_changeBoom_5 (by decide) (fun c5_1 => ?_) (fun c5_1 => ?_)
  · skip
    refine aw_aload_n X dX1_changeBoom_11 rfl ?_
    refine aw_jget X hJ f_X1_58 rfl dX1_changeBoom_12 ?_
    refine aw_istore_n X dX1_changeBoom_15 rfl (by decide) ?_
    refine aw_aload_n X dX1_changeBoom_16 rfl ?_
    refine aw_iload_n X dX1_changeBoom_17 rfl ?_
    refine aw_jput X hJ 9 (by decide) (by decide) 7 rfl f_X1_55 (fun _ => hb) dX1_changeBoom_18 (fun μ z_2 ez_2 hJ => ?_)
    refine aw_aload_n X dX1_changeBoom_21 rfl ?_
    refine aw_dup X dX1_changeBoom_22 rfl ?_
    refine aw_jget X hJ f_X1_64 rfl dX1_changeBoom_23 ?_
    refine aw_iload_n X dX1_changeBoom_26 rfl ?_
    refine aw_iadd X dX1_changeBoom_27 ?_
    refine aw_jput X hJ 12 (by decide) (by decide) 10 rfl f_X1_64 (fun h => absurd h (by decide)) dX1_changeBoom_28 (fun μ z_3 ez_3 hJ => ?_)
    refine aw_aload_n X dX1_changeBoom_31 rfl ?_
    refine aw_iconst X (0) dX1_changeBoom_32 rfl ?_
    refine aw_jput X hJ 10 (by decide) (by decide) 8 rfl f_X1_58 (fun h => absurd h (by decide)) dX1_changeBoom_33 (fun μ z_4 ez_4 hJ => ?_)
    refine aw_iload_n X dX1_changeBoom_36 rfl ?_
    exact aw_iret X hQ dX1_changeBoom_37 ⟨congrArg (fun q => some (Value.int q)) (by subst ez_2 ez_3 ez_4; simp [gBoom, c5_1]), hJ.to (by subst ez_2 ez_3 ez_4; simp [gBoom, c5_1])⟩
  · skip
    refine aw_ldc X dX1_changeBoom_8 a_X1_124 ?_
    exact aw_iret X hQ dX1_changeBoom_10 ⟨congrArg (fun q => some (Value.int q)) (by simp [gBoom, c5_1]), hJ.to (by simp [gBoom, c5_1])⟩

set_option maxHeartbeats 4000000 in
set_option maxRecDepth 100000 in
theorem c_X1_drawUnits (l : Launch) (U : xU) (μ0 : xH) (sh : Nat → Nat) (z : xV) (hJ0 : JRep U μ0 sh z) (g u : Int32) : CtJ l U yX1_drawUnits cX1_drawUnits 3 (some .int) ({ frames := 1, cells := 0, slots := 0, locals := 20 } : Room) [.ref (sh 0), .int g, .int u] μ0 sh (gDraw z g u).1 (gDraw z g u).2 := by
  refine Ct.of [some (.ref (sh 0)), some (.int g), some (.int u)] (by decide +kernel) rfl (Nat.le_of_ble_eq_true rfl) (fun K Q X hnm hQ => ?_)
  have hJ := JR.rf hJ0
  refine aw_iload_n X dX1_drawUnits_0 rfl ?_
  refine aw_cSNF (As := [.int _]) X (c_X4_isGrade (kl K) U _ _) s_X1_138 k_X4_isGrade (by decide) ⟨rfl, rfl⟩ ⟨Nat.zero_le _, Nat.zero_le _⟩ rfl (by exact Nat.le_of_ble_eq_true rfl) dX1_drawUnits_1 ?_
  refine aw_b_ne (tgt := 10) X dX1_drawUnits_4 (by decide) (fun c4_1 => ?_) (fun c4_1 => ?_)
  · skip
    refine aw_iload_n X dX1_drawUnits_10 rfl ?_
    refine aw_iconst X (1) dX1_drawUnits_11 rfl ?_
    refine aw_icmp_lt (tgt := 22) X dX1_drawUnits_12 (by decide) (fun c12_2 => ?_) (fun c12_2 => ?_)
    · skip
      refine aw_ldc X dX1_drawUnits_22 a_X1_98 ?_
      exact aw_iret X hQ dX1_drawUnits_24 ⟨congrArg (fun q => some (Value.int q)) (by simp [gDraw, c4_1, c12_2, Int32.not_le.mpr c12_2]), hJ.to (by simp [gDraw, c4_1, c12_2, Int32.not_le.mpr c12_2])⟩
    · skip
      refine aw_iload_n X dX1_drawUnits_15 rfl ?_
      refine aw_sipush X (1000) dX1_drawUnits_16 rfl ?_
      refine aw_icmp_le (tgt := 25) X dX1_drawUnits_19 (by decide) (fun c19_3 => ?_) (fun c19_3 => ?_)
      · skip
        refine aw_iload_n X dX1_drawUnits_25 rfl ?_
        refine aw_aload_n X dX1_drawUnits_26 rfl ?_
        refine aw_jget X hJ f_X1_23 rfl dX1_drawUnits_27 ?_
        refine aw_iload_n X dX1_drawUnits_30 rfl ?_
        refine aw_jald X hJ 1 (by decide) (14 + tn g) (isG_in c4_1) (by rfl) dX1_drawUnits_31 ?_
        refine aw_icmp_le (tgt := 38) X dX1_drawUnits_32 (by decide) (fun c32_4 => ?_) (fun c32_4 => ?_)
        · skip
          refine aw_aload_n X dX1_drawUnits_38 rfl ?_
          refine aw_jget X hJ f_X1_23 rfl dX1_drawUnits_39 ?_
          refine aw_iload_n X dX1_drawUnits_42 rfl ?_
          refine aw_dup2 X dX1_drawUnits_43 rfl rfl ?_
          refine aw_jald X hJ 1 (by decide) (14 + tn g) (isG_in c4_1) (by rfl) dX1_drawUnits_44 ?_
          refine aw_iload_n X dX1_drawUnits_45 rfl ?_
          refine aw_isub X dX1_drawUnits_46 ?_
          refine aw_jast X hJ 1 (by decide) (14 + tn g) (isG_in c4_1) (by rfl) dX1_drawUnits_47 (fun μ z_5 ez_5 hJ => ?_)
          refine aw_aload_n X dX1_drawUnits_48 rfl ?_
          refine aw_jget X hJ f_X1_23 rfl dX1_drawUnits_49 ?_
          refine aw_iload_n X dX1_drawUnits_52 rfl ?_
          refine aw_jald X hJ 1 (by decide) (14 + tn g) (isG_in c4_1) (by rfl) dX1_drawUnits_53 ?_
          exact aw_iret X hQ dX1_drawUnits_54 ⟨congrArg (fun q => some (Value.int q)) (by subst ez_5; simp [gDraw, c4_1, c12_2, Int32.not_lt.mp c12_2, c19_3, Int32.not_lt.mpr c19_3, c32_4, Int32.not_lt.mpr c32_4]), hJ.to (by subst ez_5; simp [gDraw, c4_1, c12_2, Int32.not_lt.mp c12_2, c19_3, Int32.not_lt.mpr c19_3, c32_4, Int32.not_lt.mpr c32_4])⟩
        · skip
          refine aw_ldc X dX1_drawUnits_35 a_X1_124 ?_
          exact aw_iret X hQ dX1_drawUnits_37 ⟨congrArg (fun q => some (Value.int q)) (by simp [gDraw, c4_1, c12_2, Int32.not_lt.mp c12_2, c19_3, Int32.not_lt.mpr c19_3, c32_4, Int32.not_le.mp c32_4]), hJ.to (by simp [gDraw, c4_1, c12_2, Int32.not_lt.mp c12_2, c19_3, Int32.not_lt.mpr c19_3, c32_4, Int32.not_le.mp c32_4])⟩
      · skip
        refine aw_ldc X dX1_drawUnits_22 a_X1_98 ?_
        exact aw_iret X hQ dX1_drawUnits_24 ⟨congrArg (fun q => some (Value.int q)) (by simp [gDraw, c4_1, c12_2, Int32.not_lt.mp c12_2, c19_3, Int32.not_le.mp c19_3]), hJ.to (by simp [gDraw, c4_1, c12_2, Int32.not_lt.mp c12_2, c19_3, Int32.not_le.mp c19_3])⟩
  · skip
    refine aw_ldc X dX1_drawUnits_7 a_X1_134 ?_
    exact aw_iret X hQ dX1_drawUnits_9 ⟨congrArg (fun q => some (Value.int q)) (by simp [gDraw, c4_1]), hJ.to (by simp [gDraw, c4_1])⟩

set_option maxHeartbeats 4000000 in
set_option maxRecDepth 100000 in
theorem c_X1_aboutTanker (l : Launch) (U : xU) (μ0 : xH) (sh : Nat → Nat) (z : xV) (hJ0 : JRep U μ0 sh z) (p w : Int32) : CtF l U yX1_aboutTanker cX1_aboutTanker 4 (some .int) ({ frames := 3, cells := 0, slots := 0, locals := 65 } : Room) [.ref (sh 0), .int p, .int w] μ0 (cTanker z p w) := by
  refine Ct.of [some (.ref (sh 0)), some (.int p), some (.int w), none] (by decide +kernel) rfl (Nat.le_of_ble_eq_true rfl) (fun K Q X hnm hQ => ?_)
  have hJ := JR.rf hJ0
  refine aw_iload_n X dX1_aboutTanker_0 rfl ?_
  refine aw_if_lt (tgt := 10) X dX1_aboutTanker_1 (by decide) (fun c1_1 => ?_) (fun c1_1 => ?_)
  · skip
    refine aw_ldc X dX1_aboutTanker_10 a_X1_98 ?_
    exact aw_iret X hQ dX1_aboutTanker_12 ⟨congrArg (fun q => some (Value.int q)) (by simp [cTanker, c1_1, Int32.not_le.mpr c1_1]), rfl⟩
  · skip
    refine aw_iload_n X dX1_aboutTanker_4 rfl ?_
    refine aw_bipush X (7) dX1_aboutTanker_5 rfl ?_
    refine aw_icmp_le (tgt := 13) X dX1_aboutTanker_7 (by decide) (fun c7_2 => ?_) (fun c7_2 => ?_)
    · skip
      refine aw_aload_n X dX1_aboutTanker_13 rfl ?_
      refine aw_iload_n X dX1_aboutTanker_14 rfl ?_
      refine aw_cVF (As := [.int _]) X (c_X1_isTankerAt (kl K) U _ sh _ hJ.1 _) s_X1_200 k_X1_isTankerAt (by decide) ⟨rfl, rfl⟩ ⟨Nat.zero_le _, Nat.zero_le _⟩ rfl (by exact Nat.le_of_ble_eq_true rfl) hJ.g0 rfl dX1_aboutTanker_15 ?_
      refine aw_if_ne (tgt := 24) X dX1_aboutTanker_18 (by decide) (fun c18_3 => ?_) (fun c18_3 => ?_)
      · skip
        refine aw_aload_n X dX1_aboutTanker_24 rfl ?_
        refine aw_jget X hJ f_X1_40 rfl dX1_aboutTanker_25 ?_
        refine aw_iload_n X dX1_aboutTanker_28 rfl ?_
        have hp := cIsT_in c18_3
        refine aw_tankAt X hJ (tn p) hp.2 hp.1 dX1_aboutTanker_29 ?_
        refine aw_astore_n X dX1_aboutTanker_30 rfl (by decide) ?_
        refine aw_iload_n X dX1_aboutTanker_31 rfl ?_
        by_cases s32_4 : w = 4
        · refine aw_tableV (tgt := 64) X (4) s32_4 dX1_aboutTanker_32 (by decide) (by decide) rfl (by decide) ?_
          refine aw_aload_n X dX1_aboutTanker_64 rfl ?_
          refine aw_cVF (As := []) X (c_X3_draught (kl K) U _ sh _ hJ.1 (tn p) hp.2) s_X1_116 k_X3_draught (by decide) ⟨rfl, rfl⟩ ⟨Nat.zero_le _, Nat.zero_le _⟩ rfl (by exact Nat.le_of_ble_eq_true rfl) (hJ.gT _ hp.2) rfl dX1_aboutTanker_65 ?_
          exact aw_iret X hQ dX1_aboutTanker_68 ⟨congrArg (fun q => some (Value.int q)) (by simp [cTanker, c1_1, Int32.not_lt.mp c1_1, c7_2, Int32.not_lt.mpr c7_2, c18_3, s32_4]), rfl⟩
        by_cases s32_5 : w = 5
        · refine aw_tableV (tgt := 69) X (5) s32_5 dX1_aboutTanker_32 (by decide) (by decide) rfl (by decide) ?_
          refine aw_aload_n X dX1_aboutTanker_69 rfl ?_
          refine aw_aload_n X dX1_aboutTanker_70 rfl ?_
          refine aw_cVF (As := []) X (c_X3_draught (kl K) U _ sh _ hJ.1 (tn p) hp.2) s_X1_116 k_X3_draught (by decide) ⟨rfl, rfl⟩ ⟨Nat.zero_le _, Nat.zero_le _⟩ rfl (by exact Nat.le_of_ble_eq_true rfl) (hJ.gT _ hp.2) rfl dX1_aboutTanker_71 ?_
          refine aw_aload_n X dX1_aboutTanker_74 rfl ?_
          refine aw_jget X hJ f_X1_52 rfl dX1_aboutTanker_75 ?_
          refine aw_cVF (As := [.int _, .int _]) X (c_X1_heightAt (kl K) U _ sh _ hJ.1 _ _) s_X1_148 k_X1_heightAt (by decide) ⟨rfl, rfl⟩ ⟨Nat.zero_le _, Nat.zero_le _⟩ rfl (by exact Nat.le_of_ble_eq_true rfl) hJ.g0 rfl dX1_aboutTanker_78 ?_
          exact aw_iret X hQ dX1_aboutTanker_81 ⟨congrArg (fun q => some (Value.int q)) (by simp [cTanker, c1_1, Int32.not_lt.mp c1_1, c7_2, Int32.not_lt.mpr c7_2, c18_3, s32_4, s32_5]), rfl⟩
        by_cases s32_6 : w = 6
        · refine aw_tableV (tgt := 82) X (6) s32_6 dX1_aboutTanker_32 (by decide) (by decide) rfl (by decide) ?_
          refine aw_aload_n X dX1_aboutTanker_82 rfl ?_
          refine aw_aload_n X dX1_aboutTanker_83 rfl ?_
          refine aw_cVF (As := []) X (c_X3_draught (kl K) U _ sh _ hJ.1 (tn p) hp.2) s_X1_116 k_X3_draught (by decide) ⟨rfl, rfl⟩ ⟨Nat.zero_le _, Nat.zero_le _⟩ rfl (by exact Nat.le_of_ble_eq_true rfl) (hJ.gT _ hp.2) rfl dX1_aboutTanker_84 ?_
          refine aw_aload_n X dX1_aboutTanker_87 rfl ?_
          refine aw_jget X hJ f_X1_52 rfl dX1_aboutTanker_88 ?_
          refine aw_cVF (As := [.int _, .int _]) X (c_X1_floatsAt (kl K) U _ sh _ hJ.1 _ _) s_X1_120 k_X1_floatsAt (by decide) ⟨rfl, rfl⟩ ⟨Nat.zero_le _, Nat.zero_le _⟩ rfl (by exact Nat.le_of_ble_eq_true rfl) hJ.g0 rfl dX1_aboutTanker_91 ?_
          refine aw_bj (tgt := 101) (t2 := 102) X dX1_aboutTanker_94 dX1_aboutTanker_97 dX1_aboutTanker_98 dX1_aboutTanker_101 (by decide) (by decide) rfl ?_
          rw [bI_ne]
          exact aw_iret X hQ dX1_aboutTanker_102 ⟨congrArg (fun q => some (Value.int q)) (by simp [cTanker, c1_1, Int32.not_lt.mp c1_1, c7_2, Int32.not_lt.mpr c7_2, c18_3, s32_4, s32_5, s32_6]), rfl⟩
        by_cases s32_7 : w = 7
        · refine aw_tableV (tgt := 103) X (7) s32_7 dX1_aboutTanker_32 (by decide) (by decide) rfl (by decide) ?_
          refine aw_aload_n X dX1_aboutTanker_103 rfl ?_
          refine aw_jget X hJ f_X1_52 rfl dX1_aboutTanker_104 ?_
          refine aw_aload_n X dX1_aboutTanker_107 rfl ?_
          refine aw_tgetC X hJ (tn p) hp.2 f_X1_113 dX1_aboutTanker_108 ?_
          refine aw_isub X dX1_aboutTanker_111 ?_
          exact aw_iret X hQ dX1_aboutTanker_112 ⟨congrArg (fun q => some (Value.int q)) (by simp [cTanker, c1_1, Int32.not_lt.mp c1_1, c7_2, Int32.not_lt.mpr c7_2, c18_3, s32_4, s32_5, s32_6, s32_7]), rfl⟩
        refine aw_tableOut (tgt := 113) X dX1_aboutTanker_32 (by have h0 := lv_neT (a := 4) s32_4 (by decide); have h1 := lv_neT (a := 5) s32_5 (by decide); have h2 := lv_neT (a := 6) s32_6 (by decide); have h3 := lv_neT (a := 7) s32_7 (by decide); omega) (by decide) ?_
        refine aw_aload_n X dX1_aboutTanker_113 rfl ?_
        refine aw_tgetU X hJ (tn p) hp.2 f_X1_110 dX1_aboutTanker_114 ?_
        refine aw_iload_n X dX1_aboutTanker_117 rfl ?_
        refine aw_uald X hJ (tn p) hp.2 (tz (tn p) (tn w)) (xw4 c1_1 c7_2 s32_4 s32_5 s32_6 s32_7) rfl dX1_aboutTanker_118 ?_
        exact aw_iret X hQ dX1_aboutTanker_119 ⟨congrArg (fun q => some (Value.int q)) (by simp [cTanker, c1_1, Int32.not_lt.mp c1_1, c7_2, Int32.not_lt.mpr c7_2, c18_3, s32_4, s32_5, s32_6, s32_7]), rfl⟩
      · skip
        refine aw_ldc X dX1_aboutTanker_21 a_X1_134 ?_
        exact aw_iret X hQ dX1_aboutTanker_23 ⟨congrArg (fun q => some (Value.int q)) (by simp [cTanker, c1_1, Int32.not_lt.mp c1_1, c7_2, Int32.not_lt.mpr c7_2, c18_3]), rfl⟩
    · skip
      refine aw_ldc X dX1_aboutTanker_10 a_X1_98 ?_
      exact aw_iret X hQ dX1_aboutTanker_12 ⟨congrArg (fun q => some (Value.int q)) (by simp [cTanker, c1_1, Int32.not_lt.mp c1_1, c7_2, Int32.not_le.mp c7_2]), rfl⟩

set_option maxHeartbeats 4000000 in
set_option maxRecDepth 100000 in
theorem c_X1_aboutHose (l : Launch) (U : xU) (μ0 : xH) (sh : Nat → Nat) (z : xV) (hJ0 : JRep U μ0 sh z) (h w : Int32) : CtF l U yX1_aboutHose cX1_aboutHose 4 (some .int) ({ frames := 1, cells := 0, slots := 0, locals := 20 } : Room) [.ref (sh 0), .int h, .int w] μ0 (cHose z h w) := by
  refine Ct.of [some (.ref (sh 0)), some (.int h), some (.int w), none] (by decide +kernel) rfl (Nat.le_of_ble_eq_true rfl) (fun K Q X hnm hQ => ?_)
  have hJ := JR.rf hJ0
  refine aw_iload_n X dX1_aboutHose_0 rfl ?_
  refine aw_cSNF (As := [.int _]) X (c_X4_isHose (kl K) U _ _) s_X1_131 k_X4_isHose (by decide) ⟨rfl, rfl⟩ ⟨Nat.zero_le _, Nat.zero_le _⟩ rfl (by exact Nat.le_of_ble_eq_true rfl) dX1_aboutHose_1 ?_
  refine aw_b_ne (tgt := 10) X dX1_aboutHose_4 (by decide) (fun c4_1 => ?_) (fun c4_1 => ?_)
  · skip
    refine aw_aload_n X dX1_aboutHose_10 rfl ?_
    refine aw_jget X hJ f_X1_34 rfl dX1_aboutHose_11 ?_
    refine aw_iload_n X dX1_aboutHose_14 rfl ?_
    refine aw_hoseAt X hJ (tn h) (isG_tn c4_1) (isG_hv c4_1) dX1_aboutHose_15 ?_
    refine aw_astore_n X dX1_aboutHose_16 rfl (by decide) ?_
    refine aw_iload_n X dX1_aboutHose_17 rfl ?_
    by_cases s18_2 : w = 0
    · refine aw_tableV (tgt := 56) X (0) s18_2 dX1_aboutHose_18 (by decide) (by decide) rfl (by decide) ?_
      refine aw_aload_n X dX1_aboutHose_56 rfl ?_
      refine aw_hget X hJ (tn h) (isG_tn c4_1) f_X1_135 rfl dX1_aboutHose_57 ?_
      exact aw_iret X hQ dX1_aboutHose_60 ⟨congrArg (fun q => some (Value.int q)) (by simp [cHose, c4_1, s18_2]), rfl⟩
    by_cases s18_3 : w = 1
    · refine aw_tableV (tgt := 61) X (1) s18_3 dX1_aboutHose_18 (by decide) (by decide) rfl (by decide) ?_
      refine aw_aload_n X dX1_aboutHose_61 rfl ?_
      refine aw_hget X hJ (tn h) (isG_tn c4_1) f_X1_155 rfl dX1_aboutHose_62 ?_
      exact aw_iret X hQ dX1_aboutHose_65 ⟨congrArg (fun q => some (Value.int q)) (by simp [cHose, c4_1, s18_2, s18_3]), rfl⟩
    by_cases s18_4 : w = 2
    · refine aw_tableV (tgt := 66) X (2) s18_4 dX1_aboutHose_18 (by decide) (by decide) rfl (by decide) ?_
      refine aw_aload_n X dX1_aboutHose_66 rfl ?_
      refine aw_hget X hJ (tn h) (isG_tn c4_1) f_X1_151 rfl dX1_aboutHose_67 ?_
      exact aw_iret X hQ dX1_aboutHose_70 ⟨congrArg (fun q => some (Value.int q)) (by simp [cHose, c4_1, s18_2, s18_3, s18_4]), rfl⟩
    by_cases s18_5 : w = 3
    · refine aw_tableV (tgt := 71) X (3) s18_5 dX1_aboutHose_18 (by decide) (by decide) rfl (by decide) ?_
      refine aw_aload_n X dX1_aboutHose_71 rfl ?_
      refine aw_hget X hJ (tn h) (isG_tn c4_1) f_X1_141 rfl dX1_aboutHose_72 ?_
      refine aw_bj (tgt := 82) (t2 := 83) X dX1_aboutHose_75 dX1_aboutHose_78 dX1_aboutHose_79 dX1_aboutHose_82 (by decide) (by decide) rfl ?_
      exact aw_iret X hQ dX1_aboutHose_83 ⟨congrArg (fun q => some (Value.int q)) (by simp [cHose, c4_1, s18_2, s18_3, s18_4, s18_5]), rfl⟩
    by_cases s18_6 : w = 4
    · refine aw_tableV (tgt := 84) X (4) s18_6 dX1_aboutHose_18 (by decide) (by decide) rfl (by decide) ?_
      refine aw_aload_n X dX1_aboutHose_84 rfl ?_
      refine aw_hget X hJ (tn h) (isG_tn c4_1) f_X1_197 rfl dX1_aboutHose_85 ?_
      exact aw_iret X hQ dX1_aboutHose_88 ⟨congrArg (fun q => some (Value.int q)) (by simp [cHose, c4_1, s18_2, s18_3, s18_4, s18_5, s18_6]), rfl⟩
    by_cases s18_7 : w = 5
    · refine aw_tableV (tgt := 89) X (5) s18_7 dX1_aboutHose_18 (by decide) (by decide) rfl (by decide) ?_
      refine aw_aload_n X dX1_aboutHose_89 rfl ?_
      refine aw_hget X hJ (tn h) (isG_tn c4_1) f_X1_195 rfl dX1_aboutHose_90 ?_
      exact aw_iret X hQ dX1_aboutHose_93 ⟨congrArg (fun q => some (Value.int q)) (by simp [cHose, c4_1, s18_2, s18_3, s18_4, s18_5, s18_6, s18_7]), rfl⟩
    refine aw_tableOut (tgt := 94) X dX1_aboutHose_18 (by have h0 := lv_neT (a := 0) s18_2 (by decide); have h1 := lv_neT (a := 1) s18_3 (by decide); have h2 := lv_neT (a := 2) s18_4 (by decide); have h3 := lv_neT (a := 3) s18_5 (by decide); have h4 := lv_neT (a := 4) s18_6 (by decide); have h5 := lv_neT (a := 5) s18_7 (by decide); omega) (by decide) ?_
    refine aw_ldc X dX1_aboutHose_94 a_X1_98 ?_
    exact aw_iret X hQ dX1_aboutHose_96 ⟨congrArg (fun q => some (Value.int q)) (by simp [cHose, c4_1, s18_2, s18_3, s18_4, s18_5, s18_6, s18_7]), rfl⟩
  · skip
    refine aw_ldc X dX1_aboutHose_7 a_X1_134 ?_
    exact aw_iret X hQ dX1_aboutHose_9 ⟨congrArg (fun q => some (Value.int q)) (by simp [cHose, c4_1]), rfl⟩

set_option maxHeartbeats 4000000 in
set_option maxRecDepth 100000 in
theorem c_X1_aboutGrade (l : Launch) (U : xU) (μ0 : xH) (sh : Nat → Nat) (z : xV) (hJ0 : JRep U μ0 sh z) (g w : Int32) : CtF l U yX1_aboutGrade cX1_aboutGrade 3 (some .int) ({ frames := 2, cells := 0, slots := 0, locals := 44 } : Room) [.ref (sh 0), .int g, .int w] μ0 (cGrade z g w) := by
  refine Ct.of [some (.ref (sh 0)), some (.int g), some (.int w)] (by decide +kernel) rfl (Nat.le_of_ble_eq_true rfl) (fun K Q X hnm hQ => ?_)
  have hJ := JR.rf hJ0
  refine aw_iload_n X dX1_aboutGrade_0 rfl ?_
  refine aw_cSNF (As := [.int _]) X (c_X4_isGrade (kl K) U _ _) s_X1_138 k_X4_isGrade (by decide) ⟨rfl, rfl⟩ ⟨Nat.zero_le _, Nat.zero_le _⟩ rfl (by exact Nat.le_of_ble_eq_true rfl) dX1_aboutGrade_1 ?_
  refine aw_b_ne (tgt := 10) X dX1_aboutGrade_4 (by decide) (fun c4_1 => ?_) (fun c4_1 => ?_)
  · skip
    refine aw_iload_n X dX1_aboutGrade_10 rfl ?_
    by_cases s11_2 : w = 0
    · refine aw_tableV (tgt := 40) X (0) s11_2 dX1_aboutGrade_11 (by decide) (by decide) rfl (by decide) ?_
      refine aw_aload_n X dX1_aboutGrade_40 rfl ?_
      refine aw_jget X hJ f_X1_23 rfl dX1_aboutGrade_41 ?_
      refine aw_iload_n X dX1_aboutGrade_44 rfl ?_
      refine aw_jald X hJ 1 (by decide) (14 + tn g) (isG_in c4_1) (by rfl) dX1_aboutGrade_45 ?_
      exact aw_iret X hQ dX1_aboutGrade_46 ⟨congrArg (fun q => some (Value.int q)) (by simp [cGrade, c4_1, s11_2]), rfl⟩
    by_cases s11_3 : w = 1
    · refine aw_tableV (tgt := 47) X (1) s11_3 dX1_aboutGrade_11 (by decide) (by decide) rfl (by decide) ?_
      refine aw_aload_n X dX1_aboutGrade_47 rfl ?_
      refine aw_iload_n X dX1_aboutGrade_48 rfl ?_
      refine aw_cVF (As := [.int _]) X (c_X1_unitsInTankers (kl K) U _ sh _ hJ.1 _ c4_1) s_X1_203 k_X1_unitsInTankers (by decide) ⟨rfl, rfl⟩ ⟨Nat.zero_le _, Nat.zero_le _⟩ rfl (by exact Nat.le_of_ble_eq_true rfl) hJ.g0 rfl dX1_aboutGrade_49 ?_
      exact aw_iret X hQ dX1_aboutGrade_52 ⟨congrArg (fun q => some (Value.int q)) (by simp [cGrade, c4_1, s11_2, s11_3]), rfl⟩
    by_cases s11_4 : w = 2
    · refine aw_tableV (tgt := 53) X (2) s11_4 dX1_aboutGrade_11 (by decide) (by decide) rfl (by decide) ?_
      refine aw_aload_n X dX1_aboutGrade_53 rfl ?_
      refine aw_jget X hJ f_X1_26 rfl dX1_aboutGrade_54 ?_
      refine aw_iload_n X dX1_aboutGrade_57 rfl ?_
      refine aw_jald X hJ 2 (by decide) (18 + tn g) (isG_in c4_1) (by rfl) dX1_aboutGrade_58 ?_
      exact aw_iret X hQ dX1_aboutGrade_59 ⟨congrArg (fun q => some (Value.int q)) (by simp [cGrade, c4_1, s11_2, s11_3, s11_4]), rfl⟩
    by_cases s11_5 : w = 3
    · refine aw_tableV (tgt := 60) X (3) s11_5 dX1_aboutGrade_11 (by decide) (by decide) rfl (by decide) ?_
      refine aw_aload_n X dX1_aboutGrade_60 rfl ?_
      refine aw_jget X hJ f_X1_29 rfl dX1_aboutGrade_61 ?_
      refine aw_iload_n X dX1_aboutGrade_64 rfl ?_
      refine aw_jald X hJ 3 (by decide) (22 + tn g) (isG_in c4_1) (by rfl) dX1_aboutGrade_65 ?_
      exact aw_iret X hQ dX1_aboutGrade_66 ⟨congrArg (fun q => some (Value.int q)) (by simp [cGrade, c4_1, s11_2, s11_3, s11_4, s11_5]), rfl⟩
    refine aw_tableOut (tgt := 67) X dX1_aboutGrade_11 (by have h0 := lv_neT (a := 0) s11_2 (by decide); have h1 := lv_neT (a := 1) s11_3 (by decide); have h2 := lv_neT (a := 2) s11_4 (by decide); have h3 := lv_neT (a := 3) s11_5 (by decide); omega) (by decide) ?_
    refine aw_ldc X dX1_aboutGrade_67 a_X1_98 ?_
    exact aw_iret X hQ dX1_aboutGrade_69 ⟨congrArg (fun q => some (Value.int q)) (by simp [cGrade, c4_1, s11_2, s11_3, s11_4, s11_5]), rfl⟩
  · skip
    refine aw_ldc X dX1_aboutGrade_7 a_X1_134 ?_
    exact aw_iret X hQ dX1_aboutGrade_9 ⟨congrArg (fun q => some (Value.int q)) (by simp [cGrade, c4_1]), rfl⟩

set_option maxHeartbeats 4000000 in
set_option maxRecDepth 100000 in
theorem c_X1_number (l : Launch) (U : xU) (μ0 : xH) (sh : Nat → Nat) (z : xV) (hJ0 : JRep U μ0 sh z) (w : Int32) : CtF l U yX1_number cX1_number 2 (some .int) ({ frames := 3, cells := 0, slots := 0, locals := 62 } : Room) [.ref (sh 0), .int w] μ0 (cNumber z w) := by
  refine Ct.of [some (.ref (sh 0)), some (.int w)] (by decide +kernel) rfl (Nat.le_of_ble_eq_true rfl) (fun K Q X hnm hQ => ?_)
  have hJ := JR.rf hJ0
  refine aw_iload_n X dX1_number_0 rfl ?_
  refine aw_if_lt (tgt := 20) X dX1_number_1 (by decide) (fun c1_1 => ?_) (fun c1_1 => ?_)
  · skip
    refine aw_iload_n X dX1_number_20 rfl ?_
    by_cases s21_2 : w = 6
    · refine aw_tableV (tgt := 84) X (6) s21_2 dX1_number_21 (by decide) (by decide) rfl (by decide) ?_
      refine aw_aload_n X dX1_number_84 rfl ?_
      refine aw_jget X hJ f_X1_52 rfl dX1_number_85 ?_
      exact aw_iret X hQ dX1_number_88 ⟨congrArg (fun q => some (Value.int q)) (by simp [cNumber, c1_1, Int32.not_le.mpr c1_1, s21_2]), rfl⟩
    by_cases s21_3 : w = 7
    · refine aw_tableV (tgt := 89) X (7) s21_3 dX1_number_21 (by decide) (by decide) rfl (by decide) ?_
      refine aw_aload_n X dX1_number_89 rfl ?_
      refine aw_aload_n X dX1_number_90 rfl ?_
      refine aw_jget X hJ f_X1_52 rfl dX1_number_91 ?_
      refine aw_cVF (As := [.int _]) X (c_X1_tideAt (kl K) U _ sh _ hJ.1 _) s_X1_94 k_X1_tideAt (by decide) ⟨rfl, rfl⟩ ⟨Nat.zero_le _, Nat.zero_le _⟩ rfl (by exact Nat.le_of_ble_eq_true rfl) hJ.g0 rfl dX1_number_94 ?_
      exact aw_iret X hQ dX1_number_97 ⟨congrArg (fun q => some (Value.int q)) (by simp [cNumber, c1_1, Int32.not_le.mpr c1_1, s21_2, s21_3]), rfl⟩
    by_cases s21_4 : w = 8
    · refine aw_tableV (tgt := 98) X (8) s21_4 dX1_number_21 (by decide) (by decide) rfl (by decide) ?_
      refine aw_aload_n X dX1_number_98 rfl ?_
      refine aw_jget X hJ f_X1_18 rfl dX1_number_99 ?_
      refine aw_iconst X (0) dX1_number_102 rfl ?_
      refine aw_jald X hJ 0 (by decide) 0 (xin_d rfl) (by decide) dX1_number_103 ?_
      refine aw_aload_n X dX1_number_104 rfl ?_
      refine aw_aload_n X dX1_number_105 rfl ?_
      refine aw_jget X hJ f_X1_52 rfl dX1_number_106 ?_
      refine aw_cVF (As := [.int _]) X (c_X1_tideAt (kl K) U _ sh _ hJ.1 _) s_X1_94 k_X1_tideAt (by decide) ⟨rfl, rfl⟩ ⟨Nat.zero_le _, Nat.zero_le _⟩ rfl (by exact Nat.le_of_ble_eq_true rfl) hJ.g0 rfl dX1_number_109 ?_
      refine aw_iadd X dX1_number_112 ?_
      exact aw_iret X hQ dX1_number_113 ⟨congrArg (fun q => some (Value.int q)) (by simp [cNumber, c1_1, Int32.not_le.mpr c1_1, s21_2, s21_3, s21_4]), rfl⟩
    by_cases s21_5 : w = 9
    · refine aw_tableV (tgt := 114) X (9) s21_5 dX1_number_21 (by decide) (by decide) rfl (by decide) ?_
      refine aw_aload_n X dX1_number_114 rfl ?_
      refine aw_jget X hJ f_X1_48 rfl dX1_number_115 ?_
      exact aw_iret X hQ dX1_number_118 ⟨congrArg (fun q => some (Value.int q)) (by simp [cNumber, c1_1, Int32.not_le.mpr c1_1, s21_2, s21_3, s21_4, s21_5]), rfl⟩
    by_cases s21_6 : w = 10
    · refine aw_tableV (tgt := 119) X (10) s21_6 dX1_number_21 (by decide) (by decide) rfl (by decide) ?_
      refine aw_aload_n X dX1_number_119 rfl ?_
      refine aw_jget X hJ f_X1_44 rfl dX1_number_120 ?_
      refine aw_bj (tgt := 130) (t2 := 131) X dX1_number_123 dX1_number_126 dX1_number_127 dX1_number_130 (by decide) (by decide) rfl ?_
      exact aw_iret X hQ dX1_number_131 ⟨congrArg (fun q => some (Value.int q)) (by simp [cNumber, c1_1, Int32.not_le.mpr c1_1, s21_2, s21_3, s21_4, s21_5, s21_6]), rfl⟩
    by_cases s21_7 : w = 11
    · refine aw_tableV (tgt := 132) X (11) s21_7 dX1_number_21 (by decide) (by decide) rfl (by decide) ?_
      refine aw_aload_n X dX1_number_132 rfl ?_
      refine aw_cVF (As := []) X (c_X1_connectedHoses (kl K) U _ sh _ hJ.1 ) s_X1_128 k_X1_connectedHoses (by decide) ⟨rfl, rfl⟩ ⟨Nat.zero_le _, Nat.zero_le _⟩ rfl (by exact Nat.le_of_ble_eq_true rfl) hJ.g0 rfl dX1_number_133 ?_
      exact aw_iret X hQ dX1_number_136 ⟨congrArg (fun q => some (Value.int q)) (by simp [cNumber, c1_1, Int32.not_le.mpr c1_1, s21_2, s21_3, s21_4, s21_5, s21_6, s21_7]), rfl⟩
    by_cases s21_8 : w = 12
    · refine aw_tableV (tgt := 137) X (12) s21_8 dX1_number_21 (by decide) (by decide) rfl (by decide) ?_
      refine aw_aload_n X dX1_number_137 rfl ?_
      refine aw_cVF (As := []) X (c_X1_burstHoses (kl K) U _ sh _ hJ.1 ) s_X1_161 k_X1_burstHoses (by decide) ⟨rfl, rfl⟩ ⟨Nat.zero_le _, Nat.zero_le _⟩ rfl (by exact Nat.le_of_ble_eq_true rfl) hJ.g0 rfl dX1_number_138 ?_
      exact aw_iret X hQ dX1_number_141 ⟨congrArg (fun q => some (Value.int q)) (by simp [cNumber, c1_1, Int32.not_le.mpr c1_1, s21_2, s21_3, s21_4, s21_5, s21_6, s21_7, s21_8]), rfl⟩
    by_cases s21_9 : w = 13
    · refine aw_tableV (tgt := 142) X (13) s21_9 dX1_number_21 (by decide) (by decide) rfl (by decide) ?_
      refine aw_aload_n X dX1_number_142 rfl ?_
      refine aw_jget X hJ f_X1_55 rfl dX1_number_143 ?_
      refine aw_bj (tgt := 153) (t2 := 154) X dX1_number_146 dX1_number_149 dX1_number_150 dX1_number_153 (by decide) (by decide) rfl ?_
      exact aw_iret X hQ dX1_number_154 ⟨congrArg (fun q => some (Value.int q)) (by simp [cNumber, c1_1, Int32.not_le.mpr c1_1, s21_2, s21_3, s21_4, s21_5, s21_6, s21_7, s21_8, s21_9]), rfl⟩
    by_cases s21_10 : w = 14
    · refine aw_tableV (tgt := 155) X (14) s21_10 dX1_number_21 (by decide) (by decide) rfl (by decide) ?_
      refine aw_aload_n X dX1_number_155 rfl ?_
      refine aw_jget X hJ f_X1_58 rfl dX1_number_156 ?_
      exact aw_iret X hQ dX1_number_159 ⟨congrArg (fun q => some (Value.int q)) (by simp [cNumber, c1_1, Int32.not_le.mpr c1_1, s21_2, s21_3, s21_4, s21_5, s21_6, s21_7, s21_8, s21_9, s21_10]), rfl⟩
    by_cases s21_11 : w = 15
    · refine aw_tableV (tgt := 160) X (15) s21_11 dX1_number_21 (by decide) (by decide) rfl (by decide) ?_
      refine aw_aload_n X dX1_number_160 rfl ?_
      refine aw_jget X hJ f_X1_61 rfl dX1_number_161 ?_
      exact aw_iret X hQ dX1_number_164 ⟨congrArg (fun q => some (Value.int q)) (by simp [cNumber, c1_1, Int32.not_le.mpr c1_1, s21_2, s21_3, s21_4, s21_5, s21_6, s21_7, s21_8, s21_9, s21_10, s21_11]), rfl⟩
    by_cases s21_12 : w = 16
    · refine aw_tableV (tgt := 165) X (16) s21_12 dX1_number_21 (by decide) (by decide) rfl (by decide) ?_
      refine aw_aload_n X dX1_number_165 rfl ?_
      refine aw_jget X hJ f_X1_64 rfl dX1_number_166 ?_
      exact aw_iret X hQ dX1_number_169 ⟨congrArg (fun q => some (Value.int q)) (by simp [cNumber, c1_1, Int32.not_le.mpr c1_1, s21_2, s21_3, s21_4, s21_5, s21_6, s21_7, s21_8, s21_9, s21_10, s21_11, s21_12]), rfl⟩
    by_cases s21_13 : w = 17
    · refine aw_tableV (tgt := 170) X (17) s21_13 dX1_number_21 (by decide) (by decide) rfl (by decide) ?_
      refine aw_aload_n X dX1_number_170 rfl ?_
      refine aw_jget X hJ f_X1_67 rfl dX1_number_171 ?_
      exact aw_iret X hQ dX1_number_174 ⟨congrArg (fun q => some (Value.int q)) (by simp [cNumber, c1_1, Int32.not_le.mpr c1_1, s21_2, s21_3, s21_4, s21_5, s21_6, s21_7, s21_8, s21_9, s21_10, s21_11, s21_12, s21_13]), rfl⟩
    refine aw_tableOut (tgt := 175) X dX1_number_21 (by have h0 := lv_neT (a := 6) s21_2 (by decide); have h1 := lv_neT (a := 7) s21_3 (by decide); have h2 := lv_neT (a := 8) s21_4 (by decide); have h3 := lv_neT (a := 9) s21_5 (by decide); have h4 := lv_neT (a := 10) s21_6 (by decide); have h5 := lv_neT (a := 11) s21_7 (by decide); have h6 := lv_neT (a := 12) s21_8 (by decide); have h7 := lv_neT (a := 13) s21_9 (by decide); have h8 := lv_neT (a := 14) s21_10 (by decide); have h9 := lv_neT (a := 15) s21_11 (by decide); have h10 := lv_neT (a := 16) s21_12 (by decide); have h11 := lv_neT (a := 17) s21_13 (by decide); omega) (by decide) ?_
    refine aw_ldc X dX1_number_175 a_X1_98 ?_
    exact aw_iret X hQ dX1_number_177 ⟨congrArg (fun q => some (Value.int q)) (by simp [cNumber, c1_1, Int32.not_le.mpr c1_1, s21_2, s21_3, s21_4, s21_5, s21_6, s21_7, s21_8, s21_9, s21_10, s21_11, s21_12, s21_13]), rfl⟩
  · skip
    refine aw_iload_n X dX1_number_4 rfl ?_
    refine aw_aload_n X dX1_number_5 rfl ?_
    refine aw_jget X hJ f_X1_18 rfl dX1_number_6 ?_
    refine aw_jlen X hJ 0 (by decide) (v := 6) rfl dX1_number_9 ?_
    refine aw_icmp_ge (tgt := 20) X dX1_number_10 (by decide) (fun c10_2 => ?_) (fun c10_2 => ?_)
    · skip
      refine aw_iload_n X dX1_number_20 rfl ?_
      by_cases s21_3 : w = 6
      · refine aw_tableV (tgt := 84) X (6) s21_3 dX1_number_21 (by decide) (by decide) rfl (by decide) ?_
        refine aw_aload_n X dX1_number_84 rfl ?_
        refine aw_jget X hJ f_X1_52 rfl dX1_number_85 ?_
        exact aw_iret X hQ dX1_number_88 ⟨congrArg (fun q => some (Value.int q)) (by simp [cNumber, c1_1, Int32.not_lt.mp c1_1, c10_2, Int32.not_lt.mpr c10_2, s21_3]), rfl⟩
      by_cases s21_4 : w = 7
      · refine aw_tableV (tgt := 89) X (7) s21_4 dX1_number_21 (by decide) (by decide) rfl (by decide) ?_
        refine aw_aload_n X dX1_number_89 rfl ?_
        refine aw_aload_n X dX1_number_90 rfl ?_
        refine aw_jget X hJ f_X1_52 rfl dX1_number_91 ?_
        refine aw_cVF (As := [.int _]) X (c_X1_tideAt (kl K) U _ sh _ hJ.1 _) s_X1_94 k_X1_tideAt (by decide) ⟨rfl, rfl⟩ ⟨Nat.zero_le _, Nat.zero_le _⟩ rfl (by exact Nat.le_of_ble_eq_true rfl) hJ.g0 rfl dX1_number_94 ?_
        exact aw_iret X hQ dX1_number_97 ⟨congrArg (fun q => some (Value.int q)) (by simp [cNumber, c1_1, Int32.not_lt.mp c1_1, c10_2, Int32.not_lt.mpr c10_2, s21_3, s21_4]), rfl⟩
      by_cases s21_5 : w = 8
      · refine aw_tableV (tgt := 98) X (8) s21_5 dX1_number_21 (by decide) (by decide) rfl (by decide) ?_
        refine aw_aload_n X dX1_number_98 rfl ?_
        refine aw_jget X hJ f_X1_18 rfl dX1_number_99 ?_
        refine aw_iconst X (0) dX1_number_102 rfl ?_
        refine aw_jald X hJ 0 (by decide) 0 (xin_d rfl) (by decide) dX1_number_103 ?_
        refine aw_aload_n X dX1_number_104 rfl ?_
        refine aw_aload_n X dX1_number_105 rfl ?_
        refine aw_jget X hJ f_X1_52 rfl dX1_number_106 ?_
        refine aw_cVF (As := [.int _]) X (c_X1_tideAt (kl K) U _ sh _ hJ.1 _) s_X1_94 k_X1_tideAt (by decide) ⟨rfl, rfl⟩ ⟨Nat.zero_le _, Nat.zero_le _⟩ rfl (by exact Nat.le_of_ble_eq_true rfl) hJ.g0 rfl dX1_number_109 ?_
        refine aw_iadd X dX1_number_112 ?_
        exact aw_iret X hQ dX1_number_113 ⟨congrArg (fun q => some (Value.int q)) (by simp [cNumber, c1_1, Int32.not_lt.mp c1_1, c10_2, Int32.not_lt.mpr c10_2, s21_3, s21_4, s21_5]), rfl⟩
      by_cases s21_6 : w = 9
      · refine aw_tableV (tgt := 114) X (9) s21_6 dX1_number_21 (by decide) (by decide) rfl (by decide) ?_
        refine aw_aload_n X dX1_number_114 rfl ?_
        refine aw_jget X hJ f_X1_48 rfl dX1_number_115 ?_
        exact aw_iret X hQ dX1_number_118 ⟨congrArg (fun q => some (Value.int q)) (by simp [cNumber, c1_1, Int32.not_lt.mp c1_1, c10_2, Int32.not_lt.mpr c10_2, s21_3, s21_4, s21_5, s21_6]), rfl⟩
      by_cases s21_7 : w = 10
      · refine aw_tableV (tgt := 119) X (10) s21_7 dX1_number_21 (by decide) (by decide) rfl (by decide) ?_
        refine aw_aload_n X dX1_number_119 rfl ?_
        refine aw_jget X hJ f_X1_44 rfl dX1_number_120 ?_
        refine aw_bj (tgt := 130) (t2 := 131) X dX1_number_123 dX1_number_126 dX1_number_127 dX1_number_130 (by decide) (by decide) rfl ?_
        exact aw_iret X hQ dX1_number_131 ⟨congrArg (fun q => some (Value.int q)) (by simp [cNumber, c1_1, Int32.not_lt.mp c1_1, c10_2, Int32.not_lt.mpr c10_2, s21_3, s21_4, s21_5, s21_6, s21_7]), rfl⟩
      by_cases s21_8 : w = 11
      · refine aw_tableV (tgt := 132) X (11) s21_8 dX1_number_21 (by decide) (by decide) rfl (by decide) ?_
        refine aw_aload_n X dX1_number_132 rfl ?_
        refine aw_cVF (As := []) X (c_X1_connectedHoses (kl K) U _ sh _ hJ.1 ) s_X1_128 k_X1_connectedHoses (by decide) ⟨rfl, rfl⟩ ⟨Nat.zero_le _, Nat.zero_le _⟩ rfl (by exact Nat.le_of_ble_eq_true rfl) hJ.g0 rfl dX1_number_133 ?_
        exact aw_iret X hQ dX1_number_136 ⟨congrArg (fun q => some (Value.int q)) (by simp [cNumber, c1_1, Int32.not_lt.mp c1_1, c10_2, Int32.not_lt.mpr c10_2, s21_3, s21_4, s21_5, s21_6, s21_7, s21_8]), rfl⟩
      by_cases s21_9 : w = 12
      · refine aw_tableV (tgt := 137) X (12) s21_9 dX1_number_21 (by decide) (by decide) rfl (by decide) ?_
        refine aw_aload_n X dX1_number_137 rfl ?_
        refine aw_cVF (As := []) X (c_X1_burstHoses (kl K) U _ sh _ hJ.1 ) s_X1_161 k_X1_burstHoses (by decide) ⟨rfl, rfl⟩ ⟨Nat.zero_le _, Nat.zero_le _⟩ rfl (by exact Nat.le_of_ble_eq_true rfl) hJ.g0 rfl dX1_number_138 ?_
        exact aw_iret X hQ dX1_number_141 ⟨congrArg (fun q => some (Value.int q)) (by simp [cNumber, c1_1, Int32.not_lt.mp c1_1, c10_2, Int32.not_lt.mpr c10_2, s21_3, s21_4, s21_5, s21_6, s21_7, s21_8, s21_9]), rfl⟩
      by_cases s21_10 : w = 13
      · refine aw_tableV (tgt := 142) X (13) s21_10 dX1_number_21 (by decide) (by decide) rfl (by decide) ?_
        refine aw_aload_n X dX1_number_142 rfl ?_
        refine aw_jget X hJ f_X1_55 rfl dX1_number_143 ?_
        refine aw_bj (tgt := 153) (t2 := 154) X dX1_number_146 dX1_number_149 dX1_number_150 dX1_number_153 (by decide) (by decide) rfl ?_
        exact aw_iret X hQ dX1_number_154 ⟨congrArg (fun q => some (Value.int q)) (by simp [cNumber, c1_1, Int32.not_lt.mp c1_1, c10_2, Int32.not_lt.mpr c10_2, s21_3, s21_4, s21_5, s21_6, s21_7, s21_8, s21_9, s21_10]), rfl⟩
      by_cases s21_11 : w = 14
      · refine aw_tableV (tgt := 155) X (14) s21_11 dX1_number_21 (by decide) (by decide) rfl (by decide) ?_
        refine aw_aload_n X dX1_number_155 rfl ?_
        refine aw_jget X hJ f_X1_58 rfl dX1_number_156 ?_
        exact aw_iret X hQ dX1_number_159 ⟨congrArg (fun q => some (Value.int q)) (by simp [cNumber, c1_1, Int32.not_lt.mp c1_1, c10_2, Int32.not_lt.mpr c10_2, s21_3, s21_4, s21_5, s21_6, s21_7, s21_8, s21_9, s21_10, s21_11]), rfl⟩
      by_cases s21_12 : w = 15
      · refine aw_tableV (tgt := 160) X (15) s21_12 dX1_number_21 (by decide) (by decide) rfl (by decide) ?_
        refine aw_aload_n X dX1_number_160 rfl ?_
        refine aw_jget X hJ f_X1_61 rfl dX1_number_161 ?_
        exact aw_iret X hQ dX1_number_164 ⟨congrArg (fun q => some (Value.int q)) (by simp [cNumber, c1_1, Int32.not_lt.mp c1_1, c10_2, Int32.not_lt.mpr c10_2, s21_3, s21_4, s21_5, s21_6, s21_7, s21_8, s21_9, s21_10, s21_11, s21_12]), rfl⟩
      by_cases s21_13 : w = 16
      · refine aw_tableV (tgt := 165) X (16) s21_13 dX1_number_21 (by decide) (by decide) rfl (by decide) ?_
        refine aw_aload_n X dX1_number_165 rfl ?_
        refine aw_jget X hJ f_X1_64 rfl dX1_number_166 ?_
        exact aw_iret X hQ dX1_number_169 ⟨congrArg (fun q => some (Value.int q)) (by simp [cNumber, c1_1, Int32.not_lt.mp c1_1, c10_2, Int32.not_lt.mpr c10_2, s21_3, s21_4, s21_5, s21_6, s21_7, s21_8, s21_9, s21_10, s21_11, s21_12, s21_13]), rfl⟩
      by_cases s21_14 : w = 17
      · refine aw_tableV (tgt := 170) X (17) s21_14 dX1_number_21 (by decide) (by decide) rfl (by decide) ?_
        refine aw_aload_n X dX1_number_170 rfl ?_
        refine aw_jget X hJ f_X1_67 rfl dX1_number_171 ?_
        exact aw_iret X hQ dX1_number_174 ⟨congrArg (fun q => some (Value.int q)) (by simp [cNumber, c1_1, Int32.not_lt.mp c1_1, c10_2, Int32.not_lt.mpr c10_2, s21_3, s21_4, s21_5, s21_6, s21_7, s21_8, s21_9, s21_10, s21_11, s21_12, s21_13, s21_14]), rfl⟩
      refine aw_tableOut (tgt := 175) X dX1_number_21 (by have h0 := lv_neT (a := 6) s21_3 (by decide); have h1 := lv_neT (a := 7) s21_4 (by decide); have h2 := lv_neT (a := 8) s21_5 (by decide); have h3 := lv_neT (a := 9) s21_6 (by decide); have h4 := lv_neT (a := 10) s21_7 (by decide); have h5 := lv_neT (a := 11) s21_8 (by decide); have h6 := lv_neT (a := 12) s21_9 (by decide); have h7 := lv_neT (a := 13) s21_10 (by decide); have h8 := lv_neT (a := 14) s21_11 (by decide); have h9 := lv_neT (a := 15) s21_12 (by decide); have h10 := lv_neT (a := 16) s21_13 (by decide); have h11 := lv_neT (a := 17) s21_14 (by decide); omega) (by decide) ?_
      refine aw_ldc X dX1_number_175 a_X1_98 ?_
      exact aw_iret X hQ dX1_number_177 ⟨congrArg (fun q => some (Value.int q)) (by simp [cNumber, c1_1, Int32.not_lt.mp c1_1, c10_2, Int32.not_lt.mpr c10_2, s21_3, s21_4, s21_5, s21_6, s21_7, s21_8, s21_9, s21_10, s21_11, s21_12, s21_13, s21_14]), rfl⟩
    · skip
      refine aw_aload_n X dX1_number_13 rfl ?_
      refine aw_jget X hJ f_X1_18 rfl dX1_number_14 ?_
      refine aw_iload_n X dX1_number_17 rfl ?_
      refine aw_jald X hJ 0 (by decide) (tn w) (xin_r (n := 6) rfl (by decide) c1_1 (Int32.not_le.mp c10_2)) (Nat.zero_add _) dX1_number_18 ?_
      exact aw_iret X hQ dX1_number_19 ⟨congrArg (fun q => some (Value.int q)) (by simp [cNumber, c1_1, Int32.not_lt.mp c1_1, c10_2, Int32.not_le.mp c10_2]), rfl⟩
