theorem isG_hv {x : Int32} (h : isG x = true) : x = nI (tn x) := by
  obtain ⟨k, hk, rfl⟩ := isG_nI h
  rw [tn, nI_clamp (by omega)]
theorem xhours {n : Int32} (h1 : ¬ n < 1) (h2 : n ≤ 48) : n = nI (tn n) := by
  obtain ⟨j, hj, rfl⟩ := nI_of2 (x := n) (M := 48) (n := 48) rfl (fun q => h1 (Int32.lt_trans q (by decide))) h2
  rw [tn, nI_clamp (by omega)]
set_option maxHeartbeats 4000000 in
set_option maxRecDepth 100000 in
theorem c_X1_moveThrough (l : Launch) (U : xU) (μ0 : xH) (sh : Nat → Nat) (z : xV) (hJ0 : JRep U μ0 sh z) (i : Nat) (hi : i < 4) : CtJ l U yX1_moveThrough cX1_moveThrough 6 (some .int) ({ frames := 1, cells := 0, slots := 0, locals := 22 } : Room) [.ref (sh 0), .ref (sh (7 + i))] μ0 sh (gMove z i).1 (gMove z i).2 := by
  refine Ct.of [some (.ref (sh 0)), some (.ref (sh (7 + i))), none, none, none, none] (by decide +kernel) rfl (Nat.le_of_ble_eq_true rfl) (fun K Q X hnm hQ => ?_)
  have hJ := JR.rf hJ0
  refine aw_aload_n X dX1_moveThrough_0 rfl ?_
  refine aw_hget X hJ (i) hi f_X1_151 rfl dX1_moveThrough_1 ?_
  refine aw_istore_n X dX1_moveThrough_4 rfl (by decide) ?_
  refine aw_iload_n X dX1_moveThrough_5 rfl ?_
  refine aw_cSNF (As := [.int _]) X (c_X4_isGrade (kl K) U _ _) s_X1_138 k_X4_isGrade (by decide) ⟨rfl, rfl⟩ ⟨Nat.zero_le _, Nat.zero_le _⟩ rfl (by exact Nat.le_of_ble_eq_true rfl) dX1_moveThrough_6 ?_
  refine aw_b_ne (tgt := 14) X dX1_moveThrough_9 (by decide) (fun c9_1 => ?_) (fun c9_1 => ?_)
  · skip
    refine aw_aload_n X dX1_moveThrough_14 rfl ?_
    refine aw_jget X hJ f_X1_40 rfl dX1_moveThrough_15 ?_
    refine aw_iconst X (0) dX1_moveThrough_18 rfl ?_
    refine aw_tankAt X hJ (0) (by decide) (by decide) dX1_moveThrough_19 ?_
    refine aw_tgetU X hJ (0) (by decide) f_X1_110 dX1_moveThrough_20 ?_
    refine aw_astore_n X dX1_moveThrough_23 rfl (by decide) ?_
    refine aw_aload_n X dX1_moveThrough_24 rfl ?_
    refine aw_jget X hJ f_X1_18 rfl dX1_moveThrough_25 ?_
    refine aw_iconst X (3) dX1_moveThrough_28 rfl ?_
    refine aw_jald X hJ 0 (by decide) 3 (xin_d rfl) (by decide) dX1_moveThrough_29 ?_
    refine aw_aload_n X dX1_moveThrough_30 rfl ?_
    refine aw_iload_n X dX1_moveThrough_31 rfl ?_
    refine aw_uald X hJ (0) (by decide) (tz (0) (tn (z (hz (i) 2)))) (isG_in c9_1) rfl dX1_moveThrough_32 ?_
    refine aw_sipush X (1000) dX1_moveThrough_33 rfl ?_
    refine aw_aload_n X dX1_moveThrough_36 rfl ?_
    refine aw_jget X hJ f_X1_23 rfl dX1_moveThrough_37 ?_
    refine aw_iload_n X dX1_moveThrough_40 rfl ?_
    refine aw_jald X hJ 1 (by decide) (14 + tn (z (hz (i) 2))) (isG_in c9_1) (by rfl) dX1_moveThrough_41 ?_
    refine aw_isub X dX1_moveThrough_42 ?_
    refine aw_min X l_X1_158 (by exact ⟨by decide, Nat.le_of_ble_eq_true rfl⟩) (by decide) dX1_moveThrough_43 ?_
    refine aw_min X l_X1_158 (by exact ⟨by decide, Nat.le_of_ble_eq_true rfl⟩) (by decide) dX1_moveThrough_46 ?_
    refine aw_istore X dX1_moveThrough_49 rfl (by decide) ?_
    refine aw_iload X dX1_moveThrough_51 rfl ?_
    refine aw_if_gt (tgt := 58) X dX1_moveThrough_53 (by decide) (fun c53_2 => ?_) (fun c53_2 => ?_)
    · skip
      refine aw_aload_n X dX1_moveThrough_58 rfl ?_
      refine aw_cVF (As := []) X (c_X0_hasOtherLast (kl K) U _ sh _ hJ.1 (i) hi) s_X1_192 k_X0_hasOtherLast (by decide) ⟨rfl, rfl⟩ ⟨Nat.zero_le _, Nat.zero_le _⟩ rfl (by exact Nat.le_of_ble_eq_true rfl) (hJ.gH _ hi) rfl dX1_moveThrough_59 ?_
      refine aw_istore X dX1_moveThrough_62 rfl (by decide) ?_
      refine aw_aload_n X dX1_moveThrough_64 rfl ?_
      refine aw_iload_n X dX1_moveThrough_65 rfl ?_
      refine aw_dup2 X dX1_moveThrough_66 rfl rfl ?_
      refine aw_uald X hJ (0) (by decide) (tz (0) (tn (z (hz (i) 2)))) (isG_in c9_1) rfl dX1_moveThrough_67 ?_
      refine aw_iload X dX1_moveThrough_68 rfl ?_
      refine aw_isub X dX1_moveThrough_70 ?_
      refine aw_uast X hJ (0) (by decide) (tz (0) (tn (z (hz (i) 2)))) (isG_in c9_1) rfl dX1_moveThrough_71 (fun μ z_3 ez_3 hJ => ?_)
      refine aw_aload_n X dX1_moveThrough_72 rfl ?_
      refine aw_iload_n X dX1_moveThrough_73 rfl ?_
      refine aw_hput X hJ (i) hi 1 (by decide) (hz (i) 1) rfl f_X1_155 (fun h => absurd h (by decide)) dX1_moveThrough_74 (fun μ z_4 ez_4 hJ => ?_)
      refine aw_iload X dX1_moveThrough_77 rfl ?_
      refine aw_b_eq (tgt := 106) X dX1_moveThrough_79 (by decide) (fun c79_5 => ?_) (fun c79_5 => ?_)
      · skip
        refine aw_aload_n X dX1_moveThrough_106 rfl ?_
        refine aw_jget X hJ f_X1_23 rfl dX1_moveThrough_107 ?_
        refine aw_iload_n X dX1_moveThrough_110 rfl ?_
        refine aw_dup2 X dX1_moveThrough_111 rfl rfl ?_
        refine aw_jald X hJ 1 (by decide) (14 + tn (z (hz (i) 2))) (isG_in c9_1) (by rfl) dX1_moveThrough_112 ?_
        refine aw_iload X dX1_moveThrough_113 rfl ?_
        refine aw_iadd X dX1_moveThrough_115 ?_
        refine aw_jast X hJ 1 (by decide) (14 + tn (z (hz (i) 2))) (isG_in c9_1) (by rfl) dX1_moveThrough_116 (fun μ z_6 ez_6 hJ => ?_)
        refine aw_aload_n X dX1_moveThrough_117 rfl ?_
        refine aw_dup X dX1_moveThrough_118 rfl ?_
        refine aw_hget X hJ (i) hi f_X1_197 rfl dX1_moveThrough_119 ?_
        refine aw_iload X dX1_moveThrough_122 rfl ?_
        refine aw_iadd X dX1_moveThrough_124 ?_
        refine aw_hput X hJ (i) hi 4 (by decide) (hz (i) 4) rfl f_X1_197 (fun h => absurd h (by decide)) dX1_moveThrough_125 (fun μ z_7 ez_7 hJ => ?_)
        refine aw_iload X dX1_moveThrough_128 rfl ?_
        exact aw_iret X hQ dX1_moveThrough_130 ⟨congrArg (fun q => some (Value.int q)) (by subst ez_3 ez_4 ez_6 ez_7; simp [gMove, c9_1, c53_2, Int32.not_le.mpr c53_2, c79_5]), hJ.to (by subst ez_3 ez_4 ez_6 ez_7; simp [gMove, c9_1, c53_2, Int32.not_le.mpr c53_2, c79_5])⟩
      · skip
        refine aw_aload_n X dX1_moveThrough_82 rfl ?_
        refine aw_jget X hJ f_X1_26 rfl dX1_moveThrough_83 ?_
        refine aw_iload_n X dX1_moveThrough_86 rfl ?_
        refine aw_dup2 X dX1_moveThrough_87 rfl rfl ?_
        refine aw_jald X hJ 2 (by decide) (18 + tn (z (hz (i) 2))) (isG_in c9_1) (by rfl) dX1_moveThrough_88 ?_
        refine aw_iload X dX1_moveThrough_89 rfl ?_
        refine aw_iadd X dX1_moveThrough_91 ?_
        refine aw_jast X hJ 2 (by decide) (18 + tn (z (hz (i) 2))) (isG_in c9_1) (by rfl) dX1_moveThrough_92 (fun μ z_6 ez_6 hJ => ?_)
        refine aw_aload_n X dX1_moveThrough_93 rfl ?_
        refine aw_dup X dX1_moveThrough_94 rfl ?_
        refine aw_hget X hJ (i) hi f_X1_195 rfl dX1_moveThrough_95 ?_
        refine aw_iload X dX1_moveThrough_98 rfl ?_
        refine aw_iadd X dX1_moveThrough_100 ?_
        refine aw_hput X hJ (i) hi 5 (by decide) (hz (i) 5) rfl f_X1_195 (fun h => absurd h (by decide)) dX1_moveThrough_101 (fun μ z_7 ez_7 hJ => ?_)
        refine aw_iconst X (0) dX1_moveThrough_104 rfl ?_
        exact aw_iret X hQ dX1_moveThrough_105 ⟨congrArg (fun q => some (Value.int q)) (by subst ez_3 ez_4 ez_6 ez_7; simp [gMove, c9_1, c53_2, Int32.not_le.mpr c53_2, c79_5]), hJ.to (by subst ez_3 ez_4 ez_6 ez_7; simp [gMove, c9_1, c53_2, Int32.not_le.mpr c53_2, c79_5])⟩
    · skip
      refine aw_iconst X (0) dX1_moveThrough_56 rfl ?_
      exact aw_iret X hQ dX1_moveThrough_57 ⟨congrArg (fun q => some (Value.int q)) (by simp [gMove, c9_1, c53_2, Int32.not_lt.mp c53_2]), hJ.to (by simp [gMove, c9_1, c53_2, Int32.not_lt.mp c53_2])⟩
  · skip
    refine aw_iconst X (0) dX1_moveThrough_12 rfl ?_
    exact aw_iret X hQ dX1_moveThrough_13 ⟨congrArg (fun q => some (Value.int q)) (by simp [gMove, c9_1]), hJ.to (by simp [gMove, c9_1])⟩

set_option maxHeartbeats 4000000 in
set_option maxRecDepth 100000 in
theorem c_X1_burst (l : Launch) (U : xU) (μ0 : xH) (sh : Nat → Nat) (z : xV) (hJ0 : JRep U μ0 sh z) (i : Nat) (hi : i < 4) : CtK l U yX1_burst cX1_burst 6 none ({ frames := 1, cells := 0, slots := 0, locals := 22 } : Room) [.ref (sh 0), .ref (sh (7 + i))] μ0 sh (gBurst z i) := by
  refine Ct.of [some (.ref (sh 0)), some (.ref (sh (7 + i))), none, none, none, none] (by decide +kernel) rfl (Nat.le_of_ble_eq_true rfl) (fun K Q X hnm hQ => ?_)
  have hJ := JR.rf hJ0
  refine aw_aload_n X dX1_burst_0 rfl ?_
  refine aw_hget X hJ (i) hi f_X1_151 rfl dX1_burst_1 ?_
  refine aw_istore_n X dX1_burst_4 rfl (by decide) ?_
  refine aw_aload_n X dX1_burst_5 rfl ?_
  refine aw_iconst X (1) dX1_burst_6 rfl ?_
  refine aw_hput X hJ (i) hi 3 (by decide) (hz (i) 3) rfl f_X1_141 (fun _ => by decide) dX1_burst_7 (fun μ z_1 ez_1 hJ => ?_)
  refine aw_aload_n X dX1_burst_10 rfl ?_
  refine aw_ldc X dX1_burst_11 a_X1_154 ?_
  refine aw_hput X hJ (i) hi 2 (by decide) (hz (i) 2) rfl f_X1_151 (fun h => absurd h (by decide)) dX1_burst_13 (fun μ z_2 ez_2 hJ => ?_)
  refine aw_iload_n X dX1_burst_16 rfl ?_
  refine aw_cSNF (As := [.int _]) X (c_X4_isGrade (kl K) U _ _) s_X1_138 k_X4_isGrade (by decide) ⟨rfl, rfl⟩ ⟨Nat.zero_le _, Nat.zero_le _⟩ rfl (by exact Nat.le_of_ble_eq_true rfl) dX1_burst_17 ?_
  refine aw_b_ne (tgt := 24) X dX1_burst_20 (by decide) (fun c20_3 => ?_) (fun c20_3 => ?_)
  · skip
    refine aw_aload_n X dX1_burst_24 rfl ?_
    refine aw_jget X hJ f_X1_40 rfl dX1_burst_25 ?_
    refine aw_iconst X (0) dX1_burst_28 rfl ?_
    refine aw_tankAt X hJ (0) (by decide) (by decide) dX1_burst_29 ?_
    refine aw_tgetU X hJ (0) (by decide) f_X1_110 dX1_burst_30 ?_
    refine aw_astore_n X dX1_burst_33 rfl (by decide) ?_
    refine aw_aload_n X dX1_burst_34 rfl ?_
    refine aw_jget X hJ f_X1_18 rfl dX1_burst_35 ?_
    refine aw_iconst X (3) dX1_burst_38 rfl ?_
    refine aw_jald X hJ 0 (by decide) 3 (xin_d rfl) (by decide) dX1_burst_39 ?_
    refine aw_aload_n X dX1_burst_40 rfl ?_
    refine aw_iload_n X dX1_burst_41 rfl ?_
    refine aw_uald X hJ (0) (by decide) (tz (0) (tn (z (hz (i) 2)))) (isG_in c20_3) rfl dX1_burst_42 ?_
    refine aw_min X l_X1_158 (by exact ⟨by decide, Nat.le_of_ble_eq_true rfl⟩) (by decide) dX1_burst_43 ?_
    refine aw_istore X dX1_burst_46 rfl (by decide) ?_
    refine aw_aload_n X dX1_burst_48 rfl ?_
    refine aw_jget X hJ f_X1_55 rfl dX1_burst_49 ?_
    refine aw_if_eq (tgt := 71) X dX1_burst_52 (by decide) (fun c52_4 => ?_) (fun c52_4 => ?_)
    · skip
      refine aw_iconst X (0) dX1_burst_71 rfl ?_
      refine aw_istore X dX1_burst_72 rfl (by decide) ?_
      refine aw_aload_n X dX1_burst_74 rfl ?_
      refine aw_iload_n X dX1_burst_75 rfl ?_
      refine aw_dup2 X dX1_burst_76 rfl rfl ?_
      refine aw_uald X hJ (0) (by decide) (tz (0) (tn (z (hz (i) 2)))) (isG_in c20_3) rfl dX1_burst_77 ?_
      refine aw_iload X dX1_burst_78 rfl ?_
      refine aw_isub X dX1_burst_80 ?_
      refine aw_uast X hJ (0) (by decide) (tz (0) (tn (z (hz (i) 2)))) (isG_in c20_3) rfl dX1_burst_81 (fun μ z_5 ez_5 hJ => ?_)
      refine aw_aload_n X dX1_burst_82 rfl ?_
      refine aw_jget X hJ f_X1_29 rfl dX1_burst_83 ?_
      refine aw_iload_n X dX1_burst_86 rfl ?_
      refine aw_dup2 X dX1_burst_87 rfl rfl ?_
      refine aw_jald X hJ 3 (by decide) (22 + tn (z (hz (i) 2))) (isG_in c20_3) (by rfl) dX1_burst_88 ?_
      refine aw_iload X dX1_burst_89 rfl ?_
      refine aw_iadd X dX1_burst_91 ?_
      refine aw_jast X hJ 3 (by decide) (22 + tn (z (hz (i) 2))) (isG_in c20_3) (by rfl) dX1_burst_92 (fun μ z_6 ez_6 hJ => ?_)
      refine aw_aload_n X dX1_burst_93 rfl ?_
      refine aw_dup X dX1_burst_94 rfl ?_
      refine aw_jget X hJ f_X1_58 rfl dX1_burst_95 ?_
      refine aw_iload X dX1_burst_98 rfl ?_
      refine aw_iadd X dX1_burst_100 ?_
      refine aw_jput X hJ 10 (by decide) (by decide) 8 rfl f_X1_58 (fun h => absurd h (by decide)) dX1_burst_101 (fun μ z_7 ez_7 hJ => ?_)
      refine aw_aload_n X dX1_burst_104 rfl ?_
      refine aw_dup X dX1_burst_105 rfl ?_
      refine aw_jget X hJ f_X1_61 rfl dX1_burst_106 ?_
      refine aw_iload X dX1_burst_109 rfl ?_
      refine aw_iload X dX1_burst_111 rfl ?_
      refine aw_isub X dX1_burst_113 ?_
      refine aw_iadd X dX1_burst_114 ?_
      refine aw_jput X hJ 11 (by decide) (by decide) 9 rfl f_X1_61 (fun h => absurd h (by decide)) dX1_burst_115 (fun μ z_8 ez_8 hJ => ?_)
      exact aw_vret X hQ dX1_burst_118 ⟨rfl, hJ.to (by subst ez_1 ez_2 ez_5 ez_6 ez_7 ez_8; simp [gBurst, c20_3, c52_4])⟩
    · skip
      refine aw_iload X dX1_burst_55 rfl ?_
      refine aw_sipush X (200) dX1_burst_57 rfl ?_
      refine aw_aload_n X dX1_burst_60 rfl ?_
      refine aw_jget X hJ f_X1_58 rfl dX1_burst_61 ?_
      refine aw_isub X dX1_burst_64 ?_
      refine aw_min X l_X1_158 (by exact ⟨by decide, Nat.le_of_ble_eq_true rfl⟩) (by decide) dX1_burst_65 ?_
      refine aw_goto (tgt := 72) X dX1_burst_68 (by decide) ?_
      refine aw_istore X dX1_burst_72 rfl (by decide) ?_
      refine aw_aload_n X dX1_burst_74 rfl ?_
      refine aw_iload_n X dX1_burst_75 rfl ?_
      refine aw_dup2 X dX1_burst_76 rfl rfl ?_
      refine aw_uald X hJ (0) (by decide) (tz (0) (tn (z (hz (i) 2)))) (isG_in c20_3) rfl dX1_burst_77 ?_
      refine aw_iload X dX1_burst_78 rfl ?_
      refine aw_isub X dX1_burst_80 ?_
      refine aw_uast X hJ (0) (by decide) (tz (0) (tn (z (hz (i) 2)))) (isG_in c20_3) rfl dX1_burst_81 (fun μ z_5 ez_5 hJ => ?_)
      refine aw_aload_n X dX1_burst_82 rfl ?_
      refine aw_jget X hJ f_X1_29 rfl dX1_burst_83 ?_
      refine aw_iload_n X dX1_burst_86 rfl ?_
      refine aw_dup2 X dX1_burst_87 rfl rfl ?_
      refine aw_jald X hJ 3 (by decide) (22 + tn (z (hz (i) 2))) (isG_in c20_3) (by rfl) dX1_burst_88 ?_
      refine aw_iload X dX1_burst_89 rfl ?_
      refine aw_iadd X dX1_burst_91 ?_
      refine aw_jast X hJ 3 (by decide) (22 + tn (z (hz (i) 2))) (isG_in c20_3) (by rfl) dX1_burst_92 (fun μ z_6 ez_6 hJ => ?_)
      refine aw_aload_n X dX1_burst_93 rfl ?_
      refine aw_dup X dX1_burst_94 rfl ?_
      refine aw_jget X hJ f_X1_58 rfl dX1_burst_95 ?_
      refine aw_iload X dX1_burst_98 rfl ?_
      refine aw_iadd X dX1_burst_100 ?_
      refine aw_jput X hJ 10 (by decide) (by decide) 8 rfl f_X1_58 (fun h => absurd h (by decide)) dX1_burst_101 (fun μ z_7 ez_7 hJ => ?_)
      refine aw_aload_n X dX1_burst_104 rfl ?_
      refine aw_dup X dX1_burst_105 rfl ?_
      refine aw_jget X hJ f_X1_61 rfl dX1_burst_106 ?_
      refine aw_iload X dX1_burst_109 rfl ?_
      refine aw_iload X dX1_burst_111 rfl ?_
      refine aw_isub X dX1_burst_113 ?_
      refine aw_iadd X dX1_burst_114 ?_
      refine aw_jput X hJ 11 (by decide) (by decide) 9 rfl f_X1_61 (fun h => absurd h (by decide)) dX1_burst_115 (fun μ z_8 ez_8 hJ => ?_)
      exact aw_vret X hQ dX1_burst_118 ⟨rfl, hJ.to (by subst ez_1 ez_2 ez_5 ez_6 ez_7 ez_8; simp [gBurst, c20_3, c52_4])⟩
  · skip
    exact aw_vret X hQ dX1_burst_23 ⟨rfl, hJ.to (by subst ez_1 ez_2; simp [gBurst, c20_3])⟩

set_option maxHeartbeats 4000000 in
set_option maxRecDepth 100000 in
theorem c_X1_tearBoom (l : Launch) (U : xU) (μ0 : xH) (sh : Nat → Nat) (z : xV) (hJ0 : JRep U μ0 sh z) : CtK l U yX1_tearBoom cX1_tearBoom 2 none ({ frames := 2, cells := 0, slots := 0, locals := 43 } : Room) [.ref (sh 0)] μ0 sh (gTear z) := by
  refine Ct.of [some (.ref (sh 0)), none] (by decide +kernel) rfl (Nat.le_of_ble_eq_true rfl) (fun K Q X hnm hQ => ?_)
  have hJ := JR.rf hJ0
  refine aw_aload_n X dX1_tearBoom_0 rfl ?_
  refine aw_aload_n X dX1_tearBoom_1 rfl ?_
  refine aw_jget X hJ f_X1_52 rfl dX1_tearBoom_2 ?_
  refine aw_cVF (As := [.int _]) X (c_X1_tideAt (kl K) U _ sh _ hJ.1 _) s_X1_94 k_X1_tideAt (by decide) ⟨rfl, rfl⟩ ⟨Nat.zero_le _, Nat.zero_le _⟩ rfl (by exact Nat.le_of_ble_eq_true rfl) hJ.g0 rfl dX1_tearBoom_5 ?_
  refine aw_aload_n X dX1_tearBoom_8 rfl ?_
  refine aw_aload_n X dX1_tearBoom_9 rfl ?_
  refine aw_jget X hJ f_X1_52 rfl dX1_tearBoom_10 ?_
  refine aw_iconst X (1) dX1_tearBoom_13 rfl ?_
  refine aw_isub X dX1_tearBoom_14 ?_
  refine aw_cVF (As := [.int _]) X (c_X1_tideAt (kl K) U _ sh _ hJ.1 _) s_X1_94 k_X1_tideAt (by decide) ⟨rfl, rfl⟩ ⟨Nat.zero_le _, Nat.zero_le _⟩ rfl (by exact Nat.le_of_ble_eq_true rfl) hJ.g0 rfl dX1_tearBoom_15 ?_
  refine aw_isub X dX1_tearBoom_18 ?_
  refine aw_abs X l_X1_179 (by exact ⟨by decide, Nat.le_of_ble_eq_true rfl⟩) (by decide) dX1_tearBoom_19 ?_
  refine aw_istore_n X dX1_tearBoom_22 rfl (by decide) ?_
  refine aw_aload_n X dX1_tearBoom_23 rfl ?_
  refine aw_jget X hJ f_X1_55 rfl dX1_tearBoom_24 ?_
  refine aw_if_eq (tgt := 36) X dX1_tearBoom_27 (by decide) (fun c27_1 => ?_) (fun c27_1 => ?_)
  · skip
    exact aw_vret X hQ dX1_tearBoom_36 ⟨rfl, hJ.to (by simp [gTear, c27_1])⟩
  · skip
    refine aw_iload_n X dX1_tearBoom_30 rfl ?_
    refine aw_bipush X (15) dX1_tearBoom_31 rfl ?_
    refine aw_icmp_gt (tgt := 37) X dX1_tearBoom_33 (by decide) (fun c33_2 => ?_) (fun c33_2 => ?_)
    · skip
      refine aw_aload_n X dX1_tearBoom_37 rfl ?_
      refine aw_iconst X (0) dX1_tearBoom_38 rfl ?_
      refine aw_jput X hJ 9 (by decide) (by decide) 7 rfl f_X1_55 (fun _ => by decide) dX1_tearBoom_39 (fun μ z_3 ez_3 hJ => ?_)
      refine aw_aload_n X dX1_tearBoom_42 rfl ?_
      refine aw_dup X dX1_tearBoom_43 rfl ?_
      refine aw_jget X hJ f_X1_61 rfl dX1_tearBoom_44 ?_
      refine aw_aload_n X dX1_tearBoom_47 rfl ?_
      refine aw_jget X hJ f_X1_58 rfl dX1_tearBoom_48 ?_
      refine aw_iadd X dX1_tearBoom_51 ?_
      refine aw_jput X hJ 11 (by decide) (by decide) 9 rfl f_X1_61 (fun h => absurd h (by decide)) dX1_tearBoom_52 (fun μ z_4 ez_4 hJ => ?_)
      refine aw_aload_n X dX1_tearBoom_55 rfl ?_
      refine aw_iconst X (0) dX1_tearBoom_56 rfl ?_
      refine aw_jput X hJ 10 (by decide) (by decide) 8 rfl f_X1_58 (fun h => absurd h (by decide)) dX1_tearBoom_57 (fun μ z_5 ez_5 hJ => ?_)
      exact aw_vret X hQ dX1_tearBoom_60 ⟨rfl, hJ.to (by subst ez_3 ez_4 ez_5; simp [gTear, c27_1, c33_2, Int32.not_le.mpr c33_2])⟩
    · skip
      exact aw_vret X hQ dX1_tearBoom_36 ⟨rfl, hJ.to (by simp [gTear, c27_1, c33_2, Int32.not_lt.mp c33_2])⟩

set_option maxHeartbeats 4000000 in
set_option maxRecDepth 100000 in
theorem c_X1_lateTankers (l : Launch) (U : xU) (μ0 : xH) (sh : Nat → Nat) (z : xV) (hJ0 : JRep U μ0 sh z) : CtF l U yX1_lateTankers cX1_lateTankers 3 (some .int) ({ frames := 1, cells := 0, slots := 0, locals := 21 } : Room) [.ref (sh 0)] μ0 (cLateN z 6) := by
  refine Ct.of [some (.ref (sh 0)), none, none] (by decide +kernel) rfl (Nat.le_of_ble_eq_true rfl) (fun K Q X hnm hQ => ?_)
  have hJ := JR.rf hJ0
  refine aw_iconst X (0) dX1_lateTankers_0 rfl ?_
  refine aw_istore_n X dX1_lateTankers_1 rfl (by decide) ?_
  refine aw_iconst X (0) dX1_lateTankers_2 rfl ?_
  refine aw_istore_n X dX1_lateTankers_3 rfl (by decide) ?_
  have loop : ∀ (d k : Nat) , k + d = 6 → AW U K 3 0 0 Q μ0 4 [some (.ref (sh 0)), some (.int (cLateN z k)), some (.int (nI k))] [] := by
    intro d
    induction d with
    | zero =>
      intro k hk
      have hk : k = 6 := by omega
      subst hk
      refine aw_iload_n X dX1_lateTankers_4 rfl ?_
      refine aw_aload_n X dX1_lateTankers_5 rfl ?_
      refine aw_jget X hJ f_X1_40 rfl dX1_lateTankers_6 ?_
      refine aw_tlen X hJ dX1_lateTankers_9 ?_
      refine aw_icmp_ge_t (tgt := 53) X dX1_lateTankers_10 (by decide) (by decide) ?_
      refine aw_iload_n X dX1_lateTankers_53 rfl ?_
      exact aw_iret X hQ dX1_lateTankers_54 ⟨rfl, rfl⟩
    | succ d ih =>
      intro k hk
      refine aw_iload_n X dX1_lateTankers_4 rfl ?_
      refine aw_aload_n X dX1_lateTankers_5 rfl ?_
      refine aw_jget X hJ f_X1_40 rfl dX1_lateTankers_6 ?_
      refine aw_tlen X hJ dX1_lateTankers_9 ?_
      refine aw_icmp_ge_f (tgt := 53) X dX1_lateTankers_10 (by decide) (xn_le (N := 6) (by omega) (by decide) rfl) ?_
      refine aw_aload_n X dX1_lateTankers_13 rfl ?_
      refine aw_iload_n X dX1_lateTankers_14 rfl ?_
      refine aw_cVF (As := [.int _]) X (c_X1_isTankerAt (kl K) U _ sh _ hJ.1 _) s_X1_200 k_X1_isTankerAt (by decide) ⟨rfl, rfl⟩ ⟨Nat.zero_le _, Nat.zero_le _⟩ rfl (by exact Nat.le_of_ble_eq_true rfl) hJ.g0 rfl dX1_lateTankers_15 ?_
      refine aw_if_eq (tgt := 47) X dX1_lateTankers_18 (by decide) (fun c18_1 => ?_) (fun c18_1 => ?_)
      · skip
        refine aw_iinc X (1) dX1_lateTankers_47 rfl rfl rfl (by decide) ?_
        refine aw_goto (tgt := 4) X dX1_lateTankers_50 (by decide) ?_
        refine aw_sub [some (.ref (sh 0)), some (.int (cLateN z (k + 1))), some (.int (nI (k + 1)))] ⟨rfl, congrArg (fun q => some (Value.int q)) (by simp [cLateN, cLateC, c18_1]), congrArg (fun q => some (Value.int q)) (nI_1 k), trivial⟩ ?_
        exact ih (k + 1) (by omega)
      · skip
        refine aw_aload_n X dX1_lateTankers_21 rfl ?_
        refine aw_jget X hJ f_X1_52 rfl dX1_lateTankers_22 ?_
        refine aw_aload_n X dX1_lateTankers_25 rfl ?_
        refine aw_jget X hJ f_X1_40 rfl dX1_lateTankers_26 ?_
        refine aw_iload_n X dX1_lateTankers_29 rfl ?_
        refine aw_tankAt X hJ (k) (by omega) rfl dX1_lateTankers_30 ?_
        refine aw_tgetC X hJ (k) (by omega) f_X1_113 dX1_lateTankers_31 ?_
        refine aw_isub X dX1_lateTankers_34 ?_
        refine aw_aload_n X dX1_lateTankers_35 rfl ?_
        refine aw_jget X hJ f_X1_18 rfl dX1_lateTankers_36 ?_
        refine aw_iconst X (4) dX1_lateTankers_39 rfl ?_
        refine aw_jald X hJ 0 (by decide) 4 (xin_d rfl) (by decide) dX1_lateTankers_40 ?_
        refine aw_icmp_le (tgt := 47) X dX1_lateTankers_41 (by decide) (fun c41_2 => ?_) (fun c41_2 => ?_)
        · skip
          refine aw_iinc X (1) dX1_lateTankers_47 rfl rfl rfl (by decide) ?_
          refine aw_goto (tgt := 4) X dX1_lateTankers_50 (by decide) ?_
          refine aw_sub [some (.ref (sh 0)), some (.int (cLateN z (k + 1))), some (.int (nI (k + 1)))] ⟨rfl, congrArg (fun q => some (Value.int q)) (by simp [cLateN, cLateC, c18_1, c41_2, Int32.not_lt.mpr c41_2]), congrArg (fun q => some (Value.int q)) (nI_1 k), trivial⟩ ?_
          exact ih (k + 1) (by omega)
        · skip
          refine aw_iinc X (1) dX1_lateTankers_44 rfl rfl rfl (by decide) ?_
          refine aw_iinc X (1) dX1_lateTankers_47 rfl rfl rfl (by decide) ?_
          refine aw_goto (tgt := 4) X dX1_lateTankers_50 (by decide) ?_
          refine aw_sub [some (.ref (sh 0)), some (.int (cLateN z (k + 1))), some (.int (nI (k + 1)))] ⟨rfl, congrArg (fun q => some (Value.int q)) (by simp [cLateN, cLateC, c18_1, c41_2, Int32.not_le.mp c41_2]), congrArg (fun q => some (Value.int q)) (nI_1 k), trivial⟩ ?_
          exact ih (k + 1) (by omega)
  refine aw_sub [some (.ref (sh 0)), some (.int (cLateN z 0)), some (.int (nI 0))] ⟨rfl, rfl, rfl, trivial⟩ ?_
  exact loop (6) 0 (by omega)

set_option maxHeartbeats 4000000 in
set_option maxRecDepth 100000 in
theorem c_X1_unitsInTankers (l : Launch) (U : xU) (μ0 : xH) (sh : Nat → Nat) (z : xV) (hJ0 : JRep U μ0 sh z) (g : Int32) (hg : isG g = true) : CtF l U yX1_unitsInTankers cX1_unitsInTankers 4 (some .int) ({ frames := 1, cells := 0, slots := 0, locals := 21 } : Room) [.ref (sh 0), .int g] μ0 (cUIT z (tn g) 6) := by
  refine Ct.of [some (.ref (sh 0)), some (.int g), none, none] (by decide +kernel) rfl (Nat.le_of_ble_eq_true rfl) (fun K Q X hnm hQ => ?_)
  have hJ := JR.rf hJ0
  refine aw_iconst X (0) dX1_unitsInTankers_0 rfl ?_
  refine aw_istore_n X dX1_unitsInTankers_1 rfl (by decide) ?_
  refine aw_iconst X (0) dX1_unitsInTankers_2 rfl ?_
  refine aw_istore_n X dX1_unitsInTankers_3 rfl (by decide) ?_
  have loop : ∀ (d k : Nat) , k + d = 6 → AW U K 4 0 0 Q μ0 4 [some (.ref (sh 0)), some (.int g), some (.int (cUIT z (tn g) k)), some (.int (nI k))] [] := by
    intro d
    induction d with
    | zero =>
      intro k hk
      have hk : k = 6 := by omega
      subst hk
      refine aw_iload_n X dX1_unitsInTankers_4 rfl ?_
      refine aw_aload_n X dX1_unitsInTankers_5 rfl ?_
      refine aw_jget X hJ f_X1_40 rfl dX1_unitsInTankers_6 ?_
      refine aw_tlen X hJ dX1_unitsInTankers_9 ?_
      refine aw_icmp_ge_t (tgt := 45) X dX1_unitsInTankers_10 (by decide) (by decide) ?_
      refine aw_iload_n X dX1_unitsInTankers_45 rfl ?_
      exact aw_iret X hQ dX1_unitsInTankers_46 ⟨rfl, rfl⟩
    | succ d ih =>
      intro k hk
      refine aw_iload_n X dX1_unitsInTankers_4 rfl ?_
      refine aw_aload_n X dX1_unitsInTankers_5 rfl ?_
      refine aw_jget X hJ f_X1_40 rfl dX1_unitsInTankers_6 ?_
      refine aw_tlen X hJ dX1_unitsInTankers_9 ?_
      refine aw_icmp_ge_f (tgt := 45) X dX1_unitsInTankers_10 (by decide) (xn_le (N := 6) (by omega) (by decide) rfl) ?_
      refine aw_iload_n X dX1_unitsInTankers_13 rfl ?_
      refine aw_aload_n X dX1_unitsInTankers_14 rfl ?_
      refine aw_iload_n X dX1_unitsInTankers_15 rfl ?_
      refine aw_cVF (As := [.int _]) X (c_X1_isTankerAt (kl K) U _ sh _ hJ.1 _) s_X1_200 k_X1_isTankerAt (by decide) ⟨rfl, rfl⟩ ⟨Nat.zero_le _, Nat.zero_le _⟩ rfl (by exact Nat.le_of_ble_eq_true rfl) hJ.g0 rfl dX1_unitsInTankers_16 ?_
      refine aw_if_eq (tgt := 36) X dX1_unitsInTankers_19 (by decide) (fun c19_1 => ?_) (fun c19_1 => ?_)
      · skip
        refine aw_iconst X (0) dX1_unitsInTankers_36 rfl ?_
        refine aw_iadd X dX1_unitsInTankers_37 ?_
        refine aw_istore_n X dX1_unitsInTankers_38 rfl (by decide) ?_
        refine aw_iinc X (1) dX1_unitsInTankers_39 rfl rfl rfl (by decide) ?_
        refine aw_goto (tgt := 4) X dX1_unitsInTankers_42 (by decide) ?_
        refine aw_sub [some (.ref (sh 0)), some (.int g), some (.int (cUIT z (tn g) (k + 1))), some (.int (nI (k + 1)))] ⟨rfl, rfl, congrArg (fun q => some (Value.int q)) (by simp [cUIT, c19_1]), congrArg (fun q => some (Value.int q)) (nI_1 k), trivial⟩ ?_
        exact ih (k + 1) (by omega)
      · skip
        refine aw_aload_n X dX1_unitsInTankers_22 rfl ?_
        refine aw_jget X hJ f_X1_40 rfl dX1_unitsInTankers_23 ?_
        refine aw_iload_n X dX1_unitsInTankers_26 rfl ?_
        refine aw_tankAt X hJ (k) (by omega) rfl dX1_unitsInTankers_27 ?_
        refine aw_tgetU X hJ (k) (by omega) f_X1_110 dX1_unitsInTankers_28 ?_
        refine aw_iload_n X dX1_unitsInTankers_31 rfl ?_
        refine aw_uald X hJ (k) (by omega) (tz (k) (tn g)) (isG_in hg) rfl dX1_unitsInTankers_32 ?_
        refine aw_goto (tgt := 37) X dX1_unitsInTankers_33 (by decide) ?_
        refine aw_iadd X dX1_unitsInTankers_37 ?_
        refine aw_istore_n X dX1_unitsInTankers_38 rfl (by decide) ?_
        refine aw_iinc X (1) dX1_unitsInTankers_39 rfl rfl rfl (by decide) ?_
        refine aw_goto (tgt := 4) X dX1_unitsInTankers_42 (by decide) ?_
        refine aw_sub [some (.ref (sh 0)), some (.int g), some (.int (cUIT z (tn g) (k + 1))), some (.int (nI (k + 1)))] ⟨rfl, rfl, congrArg (fun q => some (Value.int q)) (by simp [cUIT, c19_1]), congrArg (fun q => some (Value.int q)) (nI_1 k), trivial⟩ ?_
        exact ih (k + 1) (by omega)
  refine aw_sub [some (.ref (sh 0)), some (.int g), some (.int (cUIT z (tn g) 0)), some (.int (nI 0))] ⟨rfl, rfl, rfl, rfl, trivial⟩ ?_
  exact loop (6) 0 (by omega)

set_option maxHeartbeats 4000000 in
set_option maxRecDepth 100000 in
theorem c_X1_burstShortHoses (l : Launch) (U : xU) (μ0 : xH) (sh : Nat → Nat) (z : xV) (hJ0 : JRep U μ0 sh z) : CtK l U yX1_burstShortHoses cX1_burstShortHoses 4 none ({ frames := 3, cells := 0, slots := 0, locals := 65 } : Room) [.ref (sh 0)] μ0 sh (gBursts z) := by
  refine Ct.of [some (.ref (sh 0)), none, none, none] (by decide +kernel) rfl (Nat.le_of_ble_eq_true rfl) (fun K Q X hnm hQ => ?_)
  obtain ⟨μ, hμ, hJ⟩ : ∃ μ : xH, μ0 = μ ∧ JR U μ0 μ sh z := ⟨μ0, rfl, JR.rf hJ0⟩
  refine aw_mu hμ ?_
  refine aw_aload_n X dX1_burstShortHoses_0 rfl ?_
  refine aw_jget X hJ f_X1_44 rfl dX1_burstShortHoses_1 ?_
  refine aw_if_ne (tgt := 8) X dX1_burstShortHoses_4 (by decide) (fun c4_1 => ?_) (fun c4_1 => ?_)
  · skip
    refine aw_iconst X (0) dX1_burstShortHoses_8 rfl ?_
    refine aw_istore_n X dX1_burstShortHoses_9 rfl (by decide) ?_
    have loop : ∀ (d k : Nat) (μ : xH) (zc : xV) , k + d = 4 → zc = gShorts z k → JR U μ0 μ sh zc → AW U K 4 0 0 Q μ 10 [some (.ref (sh 0)), some (.int (nI k)), none, none] [] := by
      intro d
      induction d with
      | zero =>
        intro k μ zc hk ezc hJ
        have hk : k = 4 := by omega
        subst hk
        refine aw_iload_n X dX1_burstShortHoses_10 rfl ?_
        refine aw_iconst X (4) dX1_burstShortHoses_11 rfl ?_
        refine aw_icmp_ge_t (tgt := 84) X dX1_burstShortHoses_12 (by decide) (by decide) ?_
        exact aw_vret X hQ dX1_burstShortHoses_84 ⟨rfl, hJ.to (by subst ezc; simp [gBursts, c4_1])⟩
      | succ d ih =>
        intro k μ zc hk ezc hJ
        refine aw_iload_n X dX1_burstShortHoses_10 rfl ?_
        refine aw_iconst X (4) dX1_burstShortHoses_11 rfl ?_
        refine aw_icmp_ge_f (tgt := 84) X dX1_burstShortHoses_12 (by decide) (xn_le (N := 4) (by omega) (by decide) rfl) ?_
        refine aw_aload_n X dX1_burstShortHoses_15 rfl ?_
        refine aw_jget X hJ f_X1_34 rfl dX1_burstShortHoses_16 ?_
        refine aw_iload_n X dX1_burstShortHoses_19 rfl ?_
        refine aw_hoseAt X hJ (k) (by omega) rfl dX1_burstShortHoses_20 ?_
        refine aw_astore_n X dX1_burstShortHoses_21 rfl (by decide) ?_
        refine aw_aload_n X dX1_burstShortHoses_22 rfl ?_
        refine aw_aload_n X dX1_burstShortHoses_23 rfl ?_
        refine aw_jget X hJ f_X1_40 rfl dX1_burstShortHoses_24 ?_
        refine aw_iconst X (0) dX1_burstShortHoses_27 rfl ?_
        refine aw_tankAt X hJ (0) (by decide) (by decide) dX1_burstShortHoses_28 ?_
        refine aw_cVF (As := []) X (c_X3_draught (kl K) U _ sh _ hJ.1 (0) (by decide)) s_X1_116 k_X3_draught (by decide) ⟨rfl, rfl⟩ ⟨Nat.zero_le _, Nat.zero_le _⟩ rfl (by exact Nat.le_of_ble_eq_true rfl) (hJ.gT _ (by decide)) rfl dX1_burstShortHoses_29 ?_
        refine aw_aload_n X dX1_burstShortHoses_32 rfl ?_
        refine aw_jget X hJ f_X1_52 rfl dX1_burstShortHoses_33 ?_
        refine aw_cVF (As := [.int _, .int _]) X (c_X1_heightAt (kl K) U _ sh _ hJ.1 _ _) s_X1_148 k_X1_heightAt (by decide) ⟨rfl, rfl⟩ ⟨Nat.zero_le _, Nat.zero_le _⟩ rfl (by exact Nat.le_of_ble_eq_true rfl) hJ.g0 rfl dX1_burstShortHoses_36 ?_
        refine aw_istore_n X dX1_burstShortHoses_39 rfl (by decide) ?_
        refine aw_aload_n X dX1_burstShortHoses_40 rfl ?_
        refine aw_cVF (As := []) X (c_X0_isConnected (kl K) U _ sh _ hJ.1 (k) (by omega)) s_X1_144 k_X0_isConnected (by decide) ⟨rfl, rfl⟩ ⟨Nat.zero_le _, Nat.zero_le _⟩ rfl (by exact Nat.le_of_ble_eq_true rfl) (hJ.gH _ (by omega)) rfl dX1_burstShortHoses_41 ?_
        refine aw_b_eq (tgt := 78) X dX1_burstShortHoses_44 (by decide) (fun c44_2 => ?_) (fun c44_2 => ?_)
        · skip
          refine aw_iinc X (1) dX1_burstShortHoses_78 rfl rfl rfl (by decide) ?_
          refine aw_goto (tgt := 10) X dX1_burstShortHoses_81 (by decide) ?_
          refine aw_sub [some (.ref (sh 0)), some (.int (nI (k + 1))), none, none] ⟨rfl, congrArg (fun q => some (Value.int q)) (nI_1 k), trivial⟩ ?_
          exact ih (k + 1) μ _ (by omega) (by subst ezc; simp [gShorts, gShort, c4_1, c44_2]) hJ
        · skip
          refine aw_iload_n X dX1_burstShortHoses_47 rfl ?_
          refine aw_aload_n X dX1_burstShortHoses_48 rfl ?_
          refine aw_hget X hJ (k) (by omega) f_X1_135 rfl dX1_burstShortHoses_49 ?_
          refine aw_icmp_gt (tgt := 58) X dX1_burstShortHoses_52 (by decide) (fun c52_3 => ?_) (fun c52_3 => ?_)
          · skip
            refine aw_aload_n X dX1_burstShortHoses_58 rfl ?_
            refine aw_hget X hJ (k) (by omega) f_X1_182 rfl dX1_burstShortHoses_59 ?_
            refine aw_if_eq (tgt := 73) X dX1_burstShortHoses_62 (by decide) (fun c62_4 => ?_) (fun c62_4 => ?_)
            · skip
              refine aw_aload_n X dX1_burstShortHoses_73 rfl ?_
              refine aw_aload_n X dX1_burstShortHoses_74 rfl ?_
              refine aw_cVK (As := [.ref _]) X hJ (c_X1_burst (kl K) U _ sh _ hJ.1 (k) (by omega)) s_X1_185 k_X1_burst (by decide) ⟨rfl, rfl⟩ ⟨Nat.zero_le _, Nat.zero_le _⟩ rfl (by exact Nat.le_of_ble_eq_true rfl) hJ.g0 rfl dX1_burstShortHoses_75 (fun μ z_5 ez_5 hJ => ?_)
              refine aw_iinc X (1) dX1_burstShortHoses_78 rfl rfl rfl (by decide) ?_
              refine aw_goto (tgt := 10) X dX1_burstShortHoses_81 (by decide) ?_
              refine aw_sub [some (.ref (sh 0)), some (.int (nI (k + 1))), none, none] ⟨rfl, congrArg (fun q => some (Value.int q)) (nI_1 k), trivial⟩ ?_
              exact ih (k + 1) μ _ (by omega) (by subst ezc ez_5; simp [gShorts, gShort, c4_1, c44_2, c52_3, Int32.not_le.mpr c52_3, c62_4]) hJ
            · skip
              refine aw_aload_n X dX1_burstShortHoses_65 rfl ?_
              refine aw_iload_n X dX1_burstShortHoses_66 rfl ?_
              refine aw_hput X hJ (k) (by omega) 0 (by decide) (hz (k) 0) rfl f_X1_135 (fun h => absurd h (by decide)) dX1_burstShortHoses_67 (fun μ z_5 ez_5 hJ => ?_)
              refine aw_goto (tgt := 78) X dX1_burstShortHoses_70 (by decide) ?_
              refine aw_iinc X (1) dX1_burstShortHoses_78 rfl rfl rfl (by decide) ?_
              refine aw_goto (tgt := 10) X dX1_burstShortHoses_81 (by decide) ?_
              refine aw_sub [some (.ref (sh 0)), some (.int (nI (k + 1))), none, none] ⟨rfl, congrArg (fun q => some (Value.int q)) (nI_1 k), trivial⟩ ?_
              exact ih (k + 1) μ _ (by omega) (by subst ezc ez_5; simp [gShorts, gShort, c4_1, c44_2, c52_3, Int32.not_le.mpr c52_3, c62_4]) hJ
          · skip
            refine aw_goto (tgt := 78) X dX1_burstShortHoses_55 (by decide) ?_
            refine aw_iinc X (1) dX1_burstShortHoses_78 rfl rfl rfl (by decide) ?_
            refine aw_goto (tgt := 10) X dX1_burstShortHoses_81 (by decide) ?_
            refine aw_sub [some (.ref (sh 0)), some (.int (nI (k + 1))), none, none] ⟨rfl, congrArg (fun q => some (Value.int q)) (nI_1 k), trivial⟩ ?_
            exact ih (k + 1) μ _ (by omega) (by subst ezc; simp [gShorts, gShort, c4_1, c44_2, c52_3, Int32.not_lt.mp c52_3]) hJ
    refine aw_sub [some (.ref (sh 0)), some (.int (nI 0)), none, none] ⟨rfl, rfl, trivial⟩ ?_
    exact loop (4) 0 μ _ (by omega) rfl hJ
  · skip
    exact aw_vret X hQ dX1_burstShortHoses_7 ⟨rfl, hJ.to (by simp [gBursts, c4_1])⟩

set_option maxHeartbeats 4000000 in
set_option maxRecDepth 100000 in
theorem c_X1_moveUnits (l : Launch) (U : xU) (μ0 : xH) (sh : Nat → Nat) (z : xV) (hJ0 : JRep U μ0 sh z) : CtJ l U yX1_moveUnits cX1_moveUnits 3 (some .int) ({ frames := 3, cells := 0, slots := 0, locals := 65 } : Room) [.ref (sh 0)] μ0 sh (gMoveU z).1 (gMoveU z).2 := by
  refine Ct.of [some (.ref (sh 0)), none, none] (by decide +kernel) rfl (Nat.le_of_ble_eq_true rfl) (fun K Q X hnm hQ => ?_)
  obtain ⟨μ, hμ, hJ⟩ : ∃ μ : xH, μ0 = μ ∧ JR U μ0 μ sh z := ⟨μ0, rfl, JR.rf hJ0⟩
  refine aw_mu hμ ?_
  refine aw_aload_n X dX1_moveUnits_0 rfl ?_
  refine aw_jget X hJ f_X1_44 rfl dX1_moveUnits_1 ?_
  refine aw_if_eq (tgt := 34) X dX1_moveUnits_4 (by decide) (fun c4_1 => ?_) (fun c4_1 => ?_)
  · skip
    refine aw_iconst X (0) dX1_moveUnits_34 rfl ?_
    exact aw_iret X hQ dX1_moveUnits_35 ⟨congrArg (fun q => some (Value.int q)) (by simp [gMoveU, c4_1]), hJ.to (by simp [gMoveU, c4_1])⟩
  · skip
    refine aw_aload_n X dX1_moveUnits_7 rfl ?_
    refine aw_jget X hJ f_X1_55 rfl dX1_moveUnits_8 ?_
    refine aw_if_eq (tgt := 34) X dX1_moveUnits_11 (by decide) (fun c11_2 => ?_) (fun c11_2 => ?_)
    · skip
      refine aw_iconst X (0) dX1_moveUnits_34 rfl ?_
      exact aw_iret X hQ dX1_moveUnits_35 ⟨congrArg (fun q => some (Value.int q)) (by simp [gMoveU, c4_1, c11_2]), hJ.to (by simp [gMoveU, c4_1, c11_2])⟩
    · skip
      refine aw_aload_n X dX1_moveUnits_14 rfl ?_
      refine aw_aload_n X dX1_moveUnits_15 rfl ?_
      refine aw_jget X hJ f_X1_40 rfl dX1_moveUnits_16 ?_
      refine aw_iconst X (0) dX1_moveUnits_19 rfl ?_
      refine aw_tankAt X hJ (0) (by decide) (by decide) dX1_moveUnits_20 ?_
      refine aw_cVF (As := []) X (c_X3_draught (kl K) U _ sh _ hJ.1 (0) (by decide)) s_X1_116 k_X3_draught (by decide) ⟨rfl, rfl⟩ ⟨Nat.zero_le _, Nat.zero_le _⟩ rfl (by exact Nat.le_of_ble_eq_true rfl) (hJ.gT _ (by decide)) rfl dX1_moveUnits_21 ?_
      refine aw_aload_n X dX1_moveUnits_24 rfl ?_
      refine aw_jget X hJ f_X1_52 rfl dX1_moveUnits_25 ?_
      refine aw_cVF (As := [.int _, .int _]) X (c_X1_floatsAt (kl K) U _ sh _ hJ.1 _ _) s_X1_120 k_X1_floatsAt (by decide) ⟨rfl, rfl⟩ ⟨Nat.zero_le _, Nat.zero_le _⟩ rfl (by exact Nat.le_of_ble_eq_true rfl) hJ.g0 rfl dX1_moveUnits_28 ?_
      refine aw_b_ne (tgt := 36) X dX1_moveUnits_31 (by decide) (fun c31_3 => ?_) (fun c31_3 => ?_)
      · skip
        refine aw_iconst X (0) dX1_moveUnits_36 rfl ?_
        refine aw_istore_n X dX1_moveUnits_37 rfl (by decide) ?_
        refine aw_iconst X (0) dX1_moveUnits_38 rfl ?_
        refine aw_istore_n X dX1_moveUnits_39 rfl (by decide) ?_
        have loop : ∀ (d k : Nat) (μ : xH) (zc : xV) , k + d = 4 → zc = (gMoves z k).2 → JR U μ0 μ sh zc → AW U K 3 0 0 Q μ 40 [some (.ref (sh 0)), some (.int (gMoves z k).1), some (.int (nI k))] [] := by
          intro d
          induction d with
          | zero =>
            intro k μ zc hk ezc hJ
            have hk : k = 4 := by omega
            subst hk
            refine aw_iload_n X dX1_moveUnits_40 rfl ?_
            refine aw_iconst X (4) dX1_moveUnits_41 rfl ?_
            refine aw_icmp_ge_t (tgt := 64) X dX1_moveUnits_42 (by decide) (by decide) ?_
            refine aw_iload_n X dX1_moveUnits_64 rfl ?_
            exact aw_iret X hQ dX1_moveUnits_65 ⟨congrArg (fun q => some (Value.int q)) (by simp [gMoveU, c4_1, c11_2, c31_3]), hJ.to (by subst ezc; simp [gMoveU, c4_1, c11_2, c31_3])⟩
          | succ d ih =>
            intro k μ zc hk ezc hJ
            refine aw_iload_n X dX1_moveUnits_40 rfl ?_
            refine aw_iconst X (4) dX1_moveUnits_41 rfl ?_
            refine aw_icmp_ge_f (tgt := 64) X dX1_moveUnits_42 (by decide) (xn_le (N := 4) (by omega) (by decide) rfl) ?_
            refine aw_iload_n X dX1_moveUnits_45 rfl ?_
            refine aw_aload_n X dX1_moveUnits_46 rfl ?_
            refine aw_aload_n X dX1_moveUnits_47 rfl ?_
            refine aw_jget X hJ f_X1_34 rfl dX1_moveUnits_48 ?_
            refine aw_iload_n X dX1_moveUnits_51 rfl ?_
            refine aw_hoseAt X hJ (k) (by omega) rfl dX1_moveUnits_52 ?_
            refine aw_cVJ (As := [.ref _]) X hJ (c_X1_moveThrough (kl K) U _ sh _ hJ.1 (k) (by omega)) s_X1_188 k_X1_moveThrough (by decide) ⟨rfl, rfl⟩ ⟨Nat.zero_le _, Nat.zero_le _⟩ rfl (by exact Nat.le_of_ble_eq_true rfl) hJ.g0 rfl dX1_moveUnits_53 (fun μ z_4 ez_4 hJ => ?_)
            refine aw_iadd X dX1_moveUnits_56 ?_
            refine aw_istore_n X dX1_moveUnits_57 rfl (by decide) ?_
            refine aw_iinc X (1) dX1_moveUnits_58 rfl rfl rfl (by decide) ?_
            refine aw_goto (tgt := 40) X dX1_moveUnits_61 (by decide) ?_
            refine aw_sub [some (.ref (sh 0)), some (.int (gMoves z (k + 1)).1), some (.int (nI (k + 1)))] ⟨rfl, congrArg (fun q => some (Value.int q)) (by subst ezc ez_4; rfl), congrArg (fun q => some (Value.int q)) (nI_1 k), trivial⟩ ?_
            exact ih (k + 1) μ _ (by omega) (by subst ezc ez_4; rfl) hJ
        refine aw_sub [some (.ref (sh 0)), some (.int (gMoves z 0).1), some (.int (nI 0))] ⟨rfl, rfl, rfl, trivial⟩ ?_
        exact loop (4) 0 μ _ (by omega) rfl hJ
      · skip
        refine aw_iconst X (0) dX1_moveUnits_34 rfl ?_
        exact aw_iret X hQ dX1_moveUnits_35 ⟨congrArg (fun q => some (Value.int q)) (by simp [gMoveU, c4_1, c11_2, c31_3]), hJ.to (by simp [gMoveU, c4_1, c11_2, c31_3])⟩

set_option maxHeartbeats 4000000 in
set_option maxRecDepth 100000 in
theorem c_X1_nextHour (l : Launch) (U : xU) (μ0 : xH) (sh : Nat → Nat) (z : xV) (hJ0 : JRep U μ0 sh z) : CtJ l U yX1_nextHour cX1_nextHour 2 (some .int) ({ frames := 4, cells := 0, slots := 0, locals := 88 } : Room) [.ref (sh 0)] μ0 sh (gHour z).1 (gHour z).2 := by
  refine Ct.of [some (.ref (sh 0)), none] (by decide +kernel) rfl (Nat.le_of_ble_eq_true rfl) (fun K Q X hnm hQ => ?_)
  have hJ := JR.rf hJ0
  refine aw_aload_n X dX1_nextHour_0 rfl ?_
  refine aw_dup X dX1_nextHour_1 rfl ?_
  refine aw_jget X hJ f_X1_52 rfl dX1_nextHour_2 ?_
  refine aw_iconst X (1) dX1_nextHour_5 rfl ?_
  refine aw_iadd X dX1_nextHour_6 ?_
  refine aw_jput X hJ 8 (by decide) (by decide) 6 rfl f_X1_52 (fun h => absurd h (by decide)) dX1_nextHour_7 (fun μ z_1 ez_1 hJ => ?_)
  refine aw_aload_n X dX1_nextHour_10 rfl ?_
  refine aw_cVK (As := []) X hJ (c_X1_tearBoom (kl K) U _ sh _ hJ.1 ) s_X1_167 k_X1_tearBoom (by decide) ⟨rfl, rfl⟩ ⟨Nat.zero_le _, Nat.zero_le _⟩ rfl (by exact Nat.le_of_ble_eq_true rfl) hJ.g0 rfl dX1_nextHour_11 (fun μ z_2 ez_2 hJ => ?_)
  refine aw_aload_n X dX1_nextHour_14 rfl ?_
  refine aw_cVK (As := []) X hJ (c_X1_burstShortHoses (kl K) U _ sh _ hJ.1 ) s_X1_170 k_X1_burstShortHoses (by decide) ⟨rfl, rfl⟩ ⟨Nat.zero_le _, Nat.zero_le _⟩ rfl (by exact Nat.le_of_ble_eq_true rfl) hJ.g0 rfl dX1_nextHour_15 (fun μ z_3 ez_3 hJ => ?_)
  refine aw_aload_n X dX1_nextHour_18 rfl ?_
  refine aw_cVJ (As := []) X hJ (c_X1_moveUnits (kl K) U _ sh _ hJ.1 ) s_X1_173 k_X1_moveUnits (by decide) ⟨rfl, rfl⟩ ⟨Nat.zero_le _, Nat.zero_le _⟩ rfl (by exact Nat.le_of_ble_eq_true rfl) hJ.g0 rfl dX1_nextHour_19 (fun μ z_4 ez_4 hJ => ?_)
  refine aw_istore_n X dX1_nextHour_22 rfl (by decide) ?_
  refine aw_aload_n X dX1_nextHour_23 rfl ?_
  refine aw_dup X dX1_nextHour_24 rfl ?_
  refine aw_jget X hJ f_X1_67 rfl dX1_nextHour_25 ?_
  refine aw_aload_n X dX1_nextHour_28 rfl ?_
  refine aw_cVF (As := []) X (c_X1_lateTankers (kl K) U _ sh _ hJ.1 ) s_X1_176 k_X1_lateTankers (by decide) ⟨rfl, rfl⟩ ⟨Nat.zero_le _, Nat.zero_le _⟩ rfl (by exact Nat.le_of_ble_eq_true rfl) hJ.g0 rfl dX1_nextHour_29 ?_
  refine aw_aload_n X dX1_nextHour_32 rfl ?_
  refine aw_jget X hJ f_X1_18 rfl dX1_nextHour_33 ?_
  refine aw_iconst X (5) dX1_nextHour_36 rfl ?_
  refine aw_jald X hJ 0 (by decide) 5 (xin_d rfl) (by decide) dX1_nextHour_37 ?_
  refine aw_imul X dX1_nextHour_38 ?_
  refine aw_iadd X dX1_nextHour_39 ?_
  refine aw_jput X hJ 13 (by decide) (by decide) 11 rfl f_X1_67 (fun h => absurd h (by decide)) dX1_nextHour_40 (fun μ z_5 ez_5 hJ => ?_)
  refine aw_iload_n X dX1_nextHour_43 rfl ?_
  exact aw_iret X hQ dX1_nextHour_44 ⟨congrArg (fun q => some (Value.int q)) (by subst ez_1 ez_2 ez_3 ez_4 ez_5; simp [gHour]), hJ.to (by subst ez_1 ez_2 ez_3 ez_4 ez_5; simp [gHour])⟩

set_option maxHeartbeats 4000000 in
set_option maxRecDepth 100000 in
theorem c_X1_letPass (l : Launch) (U : xU) (μ0 : xH) (sh : Nat → Nat) (z : xV) (hJ0 : JRep U μ0 sh z) (n : Int32) : CtJ l U yX1_letPass cX1_letPass 4 (some .int) ({ frames := 5, cells := 0, slots := 0, locals := 109 } : Room) [.ref (sh 0), .int n] μ0 sh (gPass z n).1 (gPass z n).2 := by
  refine Ct.of [some (.ref (sh 0)), some (.int n), none, none] (by decide +kernel) rfl (Nat.le_of_ble_eq_true rfl) (fun K Q X hnm hQ => ?_)
  obtain ⟨μ, hμ, hJ⟩ : ∃ μ : xH, μ0 = μ ∧ JR U μ0 μ sh z := ⟨μ0, rfl, JR.rf hJ0⟩
  refine aw_mu hμ ?_
  refine aw_iload_n X dX1_letPass_0 rfl ?_
  refine aw_iconst X (1) dX1_letPass_1 rfl ?_
  refine aw_icmp_lt (tgt := 11) X dX1_letPass_2 (by decide) (fun c2_1 => ?_) (fun c2_1 => ?_)
  · skip
    refine aw_ldc X dX1_letPass_11 a_X1_98 ?_
    exact aw_iret X hQ dX1_letPass_13 ⟨congrArg (fun q => some (Value.int q)) (by simp [gPass, c2_1, Int32.not_le.mpr c2_1]), hJ.to (by simp [gPass, c2_1, Int32.not_le.mpr c2_1])⟩
  · skip
    refine aw_iload_n X dX1_letPass_5 rfl ?_
    refine aw_bipush X (48) dX1_letPass_6 rfl ?_
    refine aw_icmp_le (tgt := 14) X dX1_letPass_8 (by decide) (fun c8_2 => ?_) (fun c8_2 => ?_)
    · skip
      refine aw_aload_n X dX1_letPass_14 rfl ?_
      refine aw_jget X hJ f_X1_52 rfl dX1_letPass_15 ?_
      refine aw_iload_n X dX1_letPass_18 rfl ?_
      refine aw_iadd X dX1_letPass_19 ?_
      refine aw_sipush X (9999) dX1_letPass_20 rfl ?_
      refine aw_icmp_le (tgt := 29) X dX1_letPass_23 (by decide) (fun c23_3 => ?_) (fun c23_3 => ?_)
      · skip
        refine aw_iconst X (0) dX1_letPass_29 rfl ?_
        refine aw_istore_n X dX1_letPass_30 rfl (by decide) ?_
        refine aw_iconst X (0) dX1_letPass_31 rfl ?_
        refine aw_istore_n X dX1_letPass_32 rfl (by decide) ?_
        have hn : n = nI (tn n) := xhours c2_1 c8_2
        have hn2 : tn n < 2 ^ 31 := Int32.toNatClampNeg_lt n
        have loop : ∀ (d k : Nat) (μ : xH) (zc : xV) , k + d = tn n → zc = (gHours z k).2 → JR U μ0 μ sh zc → AW U K 4 0 0 Q μ 33 [some (.ref (sh 0)), some (.int n), some (.int (gHours z k).1), some (.int (nI k))] [] := by
          intro d
          induction d with
          | zero =>
            intro k μ zc hk ezc hJ
            have hk : k = tn n := by omega
            subst hk
            refine aw_iload_n X dX1_letPass_33 rfl ?_
            refine aw_iload_n X dX1_letPass_34 rfl ?_
            refine aw_icmp_ge_t (tgt := 51) X dX1_letPass_35 (by decide) (by rw [← hn]; exact Int32.le_refl _) ?_
            refine aw_iload_n X dX1_letPass_51 rfl ?_
            exact aw_iret X hQ dX1_letPass_52 ⟨congrArg (fun q => some (Value.int q)) (by simp [gPass, c2_1, Int32.not_lt.mp c2_1, c8_2, Int32.not_lt.mpr c8_2, c23_3, Int32.not_lt.mpr c23_3]), hJ.to (by subst ezc; simp [gPass, c2_1, Int32.not_lt.mp c2_1, c8_2, Int32.not_lt.mpr c8_2, c23_3, Int32.not_lt.mpr c23_3])⟩
          | succ d ih =>
            intro k μ zc hk ezc hJ
            refine aw_iload_n X dX1_letPass_33 rfl ?_
            refine aw_iload_n X dX1_letPass_34 rfl ?_
            refine aw_icmp_ge_f (tgt := 51) X dX1_letPass_35 (by decide) (xn_le (N := tn n) (by omega) hn2 hn) ?_
            refine aw_iload_n X dX1_letPass_38 rfl ?_
            refine aw_aload_n X dX1_letPass_39 rfl ?_
            refine aw_cVJ (As := []) X hJ (c_X1_nextHour (kl K) U _ sh _ hJ.1 ) s_X1_164 k_X1_nextHour (by decide) ⟨rfl, rfl⟩ ⟨Nat.zero_le _, Nat.zero_le _⟩ rfl (by exact Nat.le_of_ble_eq_true rfl) hJ.g0 rfl dX1_letPass_40 (fun μ z_4 ez_4 hJ => ?_)
            refine aw_iadd X dX1_letPass_43 ?_
            refine aw_istore_n X dX1_letPass_44 rfl (by decide) ?_
            refine aw_iinc X (1) dX1_letPass_45 rfl rfl rfl (by decide) ?_
            refine aw_goto (tgt := 33) X dX1_letPass_48 (by decide) ?_
            refine aw_sub [some (.ref (sh 0)), some (.int n), some (.int (gHours z (k + 1)).1), some (.int (nI (k + 1)))] ⟨rfl, rfl, congrArg (fun q => some (Value.int q)) (by subst ezc ez_4; rfl), congrArg (fun q => some (Value.int q)) (nI_1 k), trivial⟩ ?_
            exact ih (k + 1) μ _ (by omega) (by subst ezc ez_4; rfl) hJ
        refine aw_sub [some (.ref (sh 0)), some (.int n), some (.int (gHours z 0).1), some (.int (nI 0))] ⟨rfl, rfl, rfl, rfl, trivial⟩ ?_
        exact loop (tn n) 0 μ _ (by omega) rfl hJ
      · skip
        refine aw_ldc X dX1_letPass_26 a_X1_109 ?_
        exact aw_iret X hQ dX1_letPass_28 ⟨congrArg (fun q => some (Value.int q)) (by simp [gPass, c2_1, Int32.not_lt.mp c2_1, c8_2, Int32.not_lt.mpr c8_2, c23_3, Int32.not_le.mp c23_3]), hJ.to (by simp [gPass, c2_1, Int32.not_lt.mp c2_1, c8_2, Int32.not_lt.mpr c8_2, c23_3, Int32.not_le.mp c23_3])⟩
    · skip
      refine aw_ldc X dX1_letPass_11 a_X1_98 ?_
      exact aw_iret X hQ dX1_letPass_13 ⟨congrArg (fun q => some (Value.int q)) (by simp [gPass, c2_1, Int32.not_lt.mp c2_1, c8_2, Int32.not_le.mp c8_2]), hJ.to (by simp [gPass, c2_1, Int32.not_lt.mp c2_1, c8_2, Int32.not_le.mp c8_2])⟩
