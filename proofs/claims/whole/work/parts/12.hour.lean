theorem isG_hv {x : Int32} (h : isG x = true) : x = nI (tn x) := by
  obtain ⟨k, hk, rfl⟩ := isG_nI h
  rw [tn, nI_clamp (by omega)]
set_option maxHeartbeats 4000000 in
set_option maxRecDepth 100000 in
theorem c_X1_moveThrough (l : Launch) (U : xU) (μ0 : xH) (sh : Nat → Nat) (z : xV) (hJ0 : JRep U μ0 sh z) (i : Nat) (hi : i < 4) : CtJ l U yX1_moveThrough cX1_moveThrough 6 (some .int) ({ frames := 1, cells := 0, slots := 0, locals := 22 } : Room) [.ref (sh 0), .ref (sh (7 + i))] μ0 sh (gMove z i).1 (gMove z i).2 := by
  refine Ct.of [some (.ref (sh 0)), some (.ref (sh (7 + i))), none, none, none, none] (by decide +kernel) rfl (Nat.le_of_ble_eq_true rfl) (fun K Q X hnm hQ => ?_)
  have hJ := JR.rf hJ0
  refine aw_aload_n X dX1_moveThrough_0 rfl ?_
  refine aw_hget X hJ (i) hi f_X1_151 rfl dX1_moveThrough_1 ?_
  refine aw_istore_n X dX1_moveThrough_4 rfl (by decide) ?_
  refine aw_iload_n X dX1_moveThrough_5 rfl ?_
  refine aw_cSNF (As := [.int _]) X (c_X4_isGrade (kl K) U _ _) s_X1_138 k_X4_isGrade (by decide) ⟨rfl, rfl⟩ ⟨Nat.zero_le _, Nat.zero_le _⟩ rfl (by exact Nat.le_of_ble_eq_true rfl) dX1_moveThrough_6 ?_
  refine aw_b_ne (tgt := 14) X dX1_moveThrough_9 (by decide) (fun c9_1 => ?_) (fun c9_1 => ?_)
  · skip
    refine aw_aload_n X dX1_moveThrough_14 rfl ?_
    refine aw_jget X hJ f_X1_40 rfl dX1_moveThrough_15 ?_
    refine aw_iconst X (0) dX1_moveThrough_18 rfl ?_
    refine aw_tankAt X hJ (0) (by decide) (by decide) dX1_moveThrough_19 ?_
    refine aw_tgetU X hJ (0) (by decide) f_X1_110 dX1_moveThrough_20 ?_
    refine aw_astore_n X dX1_moveThrough_23 rfl (by decide) ?_
    refine aw_aload_n X dX1_moveThrough_24 rfl ?_
    refine aw_jget X hJ f_X1_18 rfl dX1_moveThrough_25 ?_
    refine aw_iconst X (3) dX1_moveThrough_28 rfl ?_
    refine aw_jald X hJ 0 (by decide) 3 (xin_d rfl) (by decide) dX1_moveThrough_29 ?_
    refine aw_aload_n X dX1_moveThrough_30 rfl ?_
    refine aw_iload_n X dX1_moveThrough_31 rfl ?_
    refine aw_uald X hJ (0) (by decide) (tz (0) (tn (z (hz (i) 2)))) (isG_in c9_1) rfl dX1_moveThrough_32 ?_
    refine aw_sipush X (1000) dX1_moveThrough_33 rfl ?_
    refine aw_aload_n X dX1_moveThrough_36 rfl ?_
    refine aw_jget X hJ f_X1_23 rfl dX1_moveThrough_37 ?_
    refine aw_iload_n X dX1_moveThrough_40 rfl ?_
    refine aw_jald X hJ 1 (by decide) (14 + tn (z (hz (i) 2))) (isG_in c9_1) (by rfl) dX1_moveThrough_41 ?_
    refine aw_isub X dX1_moveThrough_42 ?_
    refine aw_min X l_X1_158 (by exact ⟨by decide, Nat.le_of_ble_eq_true rfl⟩) (by decide) dX1_moveThrough_43 ?_
    refine aw_min X l_X1_158 (by exact ⟨by decide, Nat.le_of_ble_eq_true rfl⟩) (by decide) dX1_moveThrough_46 ?_
    refine aw_istore X dX1_moveThrough_49 rfl (by decide) ?_
    refine aw_iload X dX1_moveThrough_51 rfl ?_
    refine aw_if_gt (tgt := 58) X dX1_moveThrough_53 (by decide) (fun c53_2 => ?_) (fun c53_2 => ?_)
    · skip
      refine aw_aload_n X dX1_moveThrough_58 rfl ?_
      refine aw_cVF (As := []) X (c_X0_hasOtherLast (kl K) U _ sh _ hJ.1 (i) hi) s_X1_192 k_X0_hasOtherLast (by decide) ⟨rfl, rfl⟩ ⟨Nat.zero_le _, Nat.zero_le _⟩ rfl (by exact Nat.le_of_ble_eq_true rfl) (hJ.gH _ hi) rfl dX1_moveThrough_59 ?_
      refine aw_istore X dX1_moveThrough_62 rfl (by decide) ?_
      refine aw_aload_n X dX1_moveThrough_64 rfl ?_
      refine aw_iload_n X dX1_moveThrough_65 rfl ?_
      refine aw_dup2 X dX1_moveThrough_66 rfl rfl ?_
      refine aw_uald X hJ (0) (by decide) (tz (0) (tn (z (hz (i) 2)))) (isG_in c9_1) rfl dX1_moveThrough_67 ?_
      refine aw_iload X dX1_moveThrough_68 rfl ?_
      refine aw_isub X dX1_moveThrough_70 ?_
      refine aw_uast X hJ (0) (by decide) (tz (0) (tn (z (hz (i) 2)))) (isG_in c9_1) rfl dX1_moveThrough_71 (fun μ z_3 ez_3 hJ => ?_)
      refine aw_aload_n X dX1_moveThrough_72 rfl ?_
      refine aw_iload_n X dX1_moveThrough_73 rfl ?_
      refine aw_hput X hJ (i) hi 1 (by decide) (hz (i) 1) rfl f_X1_155 (fun h => absurd h (by decide)) dX1_moveThrough_74 (fun μ z_4 ez_4 hJ => ?_)
      refine aw_iload X dX1_moveThrough_77 rfl ?_
      refine aw_b_eq (tgt := 106) X dX1_moveThrough_79 (by decide) (fun c79_5 => ?_) (fun c79_5 => ?_)
      · skip
        refine aw_aload_n X dX1_moveThrough_106 rfl ?_
        refine aw_jget X hJ f_X1_23 rfl dX1_moveThrough_107 ?_
        refine aw_iload_n X dX1_moveThrough_110 rfl ?_
        refine aw_dup2 X dX1_moveThrough_111 rfl rfl ?_
        refine aw_jald X hJ 1 (by decide) (14 + tn (z (hz (i) 2))) (isG_in c9_1) (by rfl) dX1_moveThrough_112 ?_
        refine aw_iload X dX1_moveThrough_113 rfl ?_
        refine aw_iadd X dX1_moveThrough_115 ?_
        refine aw_jast X hJ 1 (by decide) (14 + tn (z (hz (i) 2))) (isG_in c9_1) (by rfl) dX1_moveThrough_116 (fun μ z_6 ez_6 hJ => ?_)
        refine aw_aload_n X dX1_moveThrough_117 rfl ?_
        refine aw_dup X dX1_moveThrough_118 rfl ?_
        refine aw_hget X hJ (i) hi f_X1_197 rfl dX1_moveThrough_119 ?_
        refine aw_iload X dX1_moveThrough_122 rfl ?_
        refine aw_iadd X dX1_moveThrough_124 ?_
        refine aw_hput X hJ (i) hi 4 (by decide) (hz (i) 4) rfl f_X1_197 (fun h => absurd h (by decide)) dX1_moveThrough_125 (fun μ z_7 ez_7 hJ => ?_)
        refine aw_iload X dX1_moveThrough_128 rfl ?_
        exact aw_iret X hQ dX1_moveThrough_130 ⟨congrArg (fun q => some (Value.int q)) (by subst ez_3 ez_4 ez_6 ez_7; simp [gMove, c9_1, c53_2, Int32.not_le.mpr c53_2, c79_5]), hJ.to (by subst ez_3 ez_4 ez_6 ez_7; simp [gMove, c9_1, c53_2, Int32.not_le.mpr c53_2, c79_5])⟩
      · skip
        refine aw_aload_n X dX1_moveThrough_82 rfl ?_
        refine aw_jget X hJ f_X1_26 rfl dX1_moveThrough_83 ?_
        refine aw_iload_n X dX1_moveThrough_86 rfl ?_
        refine aw_dup2 X dX1_moveThrough_87 rfl rfl ?_
        refine aw_jald X hJ 2 (by decide) (18 + tn (z (hz (i) 2))) (isG_in c9_1) (by rfl) dX1_moveThrough_88 ?_
        refine aw_iload X dX1_moveThrough_89 rfl ?_
        refine aw_iadd X dX1_moveThrough_91 ?_
        refine aw_jast X hJ 2 (by decide) (18 + tn (z (hz (i) 2))) (isG_in c9_1) (by rfl) dX1_moveThrough_92 (fun μ z_6 ez_6 hJ => ?_)
        refine aw_aload_n X dX1_moveThrough_93 rfl ?_
        refine aw_dup X dX1_moveThrough_94 rfl ?_
        refine aw_hget X hJ (i) hi f_X1_195 rfl dX1_moveThrough_95 ?_
        refine aw_iload X dX1_moveThrough_98 rfl ?_
        refine aw_iadd X dX1_moveThrough_100 ?_
        refine aw_hput X hJ (i) hi 5 (by decide) (hz (i) 5) rfl f_X1_195 (fun h => absurd h (by decide)) dX1_moveThrough_101 (fun μ z_7 ez_7 hJ => ?_)
        refine aw_iconst X (0) dX1_moveThrough_104 rfl ?_
        exact aw_iret X hQ dX1_moveThrough_105 ⟨congrArg (fun q => some (Value.int q)) (by subst ez_3 ez_4 ez_6 ez_7; simp [gMove, c9_1, c53_2, Int32.not_le.mpr c53_2, c79_5]), hJ.to (by subst ez_3 ez_4 ez_6 ez_7; simp [gMove, c9_1, c53_2, Int32.not_le.mpr c53_2, c79_5])⟩
    · skip
      refine aw_iconst X (0) dX1_moveThrough_56 rfl ?_
      exact aw_iret X hQ dX1_moveThrough_57 ⟨congrArg (fun q => some (Value.int q)) (by simp [gMove, c9_1, c53_2, Int32.not_lt.mp c53_2]), hJ.to (by simp [gMove, c9_1, c53_2, Int32.not_lt.mp c53_2])⟩
  · skip
    refine aw_iconst X (0) dX1_moveThrough_12 rfl ?_
    exact aw_iret X hQ dX1_moveThrough_13 ⟨congrArg (fun q => some (Value.int q)) (by simp [gMove, c9_1]), hJ.to (by simp [gMove, c9_1])⟩

set_option maxHeartbeats 4000000 in
set_option maxRecDepth 100000 in
theorem c_X1_burst (l : Launch) (U : xU) (μ0 : xH) (sh : Nat → Nat) (z : xV) (hJ0 : JRep U μ0 sh z) (i : Nat) (hi : i < 4) : CtK l U yX1_burst cX1_burst 6 none ({ frames := 1, cells := 0, slots := 0, locals := 22 } : Room) [.ref (sh 0), .ref (sh (7 + i))] μ0 sh (gBurst z i) := by
  refine Ct.of [some (.ref (sh 0)), some (.ref (sh (7 + i))), none, none, none, none] (by decide +kernel) rfl (Nat.le_of_ble_eq_true rfl) (fun K Q X hnm hQ => ?_)
  have hJ := JR.rf hJ0
  refine aw_aload_n X dX1_burst_0 rfl ?_
  refine aw_hget X hJ (i) hi f_X1_151 rfl dX1_burst_1 ?_
  refine aw_istore_n X dX1_burst_4 rfl (by decide) ?_
  refine aw_aload_n X dX1_burst_5 rfl ?_
  refine aw_iconst X (1) dX1_burst_6 rfl ?_
  refine aw_hput X hJ (i) hi 3 (by decide) (hz (i) 3) rfl f_X1_141 (fun _ => by decide) dX1_burst_7 (fun μ z_1 ez_1 hJ => ?_)
  refine aw_aload_n X dX1_burst_10 rfl ?_
  refine aw_ldc X dX1_burst_11 a_X1_154 ?_
  refine aw_hput X hJ (i) hi 2 (by decide) (hz (i) 2) rfl f_X1_151 (fun h => absurd h (by decide)) dX1_burst_13 (fun μ z_2 ez_2 hJ => ?_)
  refine aw_iload_n X dX1_burst_16 rfl ?_
  refine aw_cSNF (As := [.int _]) X (c_X4_isGrade (kl K) U _ _) s_X1_138 k_X4_isGrade (by decide) ⟨rfl, rfl⟩ ⟨Nat.zero_le _, Nat.zero_le _⟩ rfl (by exact Nat.le_of_ble_eq_true rfl) dX1_burst_17 ?_
  refine aw_b_ne (tgt := 24) X dX1_burst_20 (by decide) (fun c20_3 => ?_) (fun c20_3 => ?_)
  · skip
    refine aw_aload_n X dX1_burst_24 rfl ?_
    refine aw_jget X hJ f_X1_40 rfl dX1_burst_25 ?_
    refine aw_iconst X (0) dX1_burst_28 rfl ?_
    refine aw_tankAt X hJ (0) (by decide) (by decide) dX1_burst_29 ?_
    refine aw_tgetU X hJ (0) (by decide) f_X1_110 dX1_burst_30 ?_
    refine aw_astore_n X dX1_burst_33 rfl (by decide) ?_
    refine aw_aload_n X dX1_burst_34 rfl ?_
    refine aw_jget X hJ f_X1_18 rfl dX1_burst_35 ?_
    refine aw_iconst X (3) dX1_burst_38 rfl ?_
    refine aw_jald X hJ 0 (by decide) 3 (xin_d rfl) (by decide) dX1_burst_39 ?_
    refine aw_aload_n X dX1_burst_40 rfl ?_
    refine aw_iload_n X dX1_burst_41 rfl ?_
    refine aw_uald X hJ (0) (by decide) (tz (0) (tn (z (hz (i) 2)))) (isG_in c20_3) rfl dX1_burst_42 ?_
    refine aw_min X l_X1_158 (by exact ⟨by decide, Nat.le_of_ble_eq_true rfl⟩) (by decide) dX1_burst_43 ?_
    refine aw_istore X dX1_burst_46 rfl (by decide) ?_
    refine aw_aload_n X dX1_burst_48 rfl ?_
    refine aw_jget X hJ f_X1_55 rfl dX1_burst_49 ?_
    refine aw_if_eq (tgt := 71) X dX1_burst_52 (by decide) (fun c52_4 => ?_) (fun c52_4 => ?_)
    · skip
      refine aw_iconst X (0) dX1_burst_71 rfl ?_
      refine aw_istore X dX1_burst_72 rfl (by decide) ?_
      refine aw_aload_n X dX1_burst_74 rfl ?_
      refine aw_iload_n X dX1_burst_75 rfl ?_
      refine aw_dup2 X dX1_burst_76 rfl rfl ?_
      refine aw_uald X hJ (0) (by decide) (tz (0) (tn (z (hz (i) 2)))) (isG_in c20_3) rfl dX1_burst_77 ?_
      refine aw_iload X dX1_burst_78 rfl ?_
      refine aw_isub X dX1_burst_80 ?_
      refine aw_uast X hJ (0) (by decide) (tz (0) (tn (z (hz (i) 2)))) (isG_in c20_3) rfl dX1_burst_81 (fun μ z_5 ez_5 hJ => ?_)
      refine aw_aload_n X dX1_burst_82 rfl ?_
      refine aw_jget X hJ f_X1_29 rfl dX1_burst_83 ?_
      refine aw_iload_n X dX1_burst_86 rfl ?_
      refine aw_dup2 X dX1_burst_87 rfl rfl ?_
      refine aw_jald X hJ 3 (by decide) (22 + tn (z (hz (i) 2))) (isG_in c20_3) (by rfl) dX1_burst_88 ?_
      refine aw_iload X dX1_burst_89 rfl ?_
      refine aw_iadd X dX1_burst_91 ?_
      refine aw_jast X hJ 3 (by decide) (22 + tn (z (hz (i) 2))) (isG_in c20_3) (by rfl) dX1_burst_92 (fun μ z_6 ez_6 hJ => ?_)
      refine aw_aload_n X dX1_burst_93 rfl ?_
      refine aw_dup X dX1_burst_94 rfl ?_
      refine aw_jget X hJ f_X1_58 rfl dX1_burst_95 ?_
      refine aw_iload X dX1_burst_98 rfl ?_
      refine aw_iadd X dX1_burst_100 ?_
      refine aw_jput X hJ 10 (by decide) (by decide) 8 rfl f_X1_58 (fun h => absurd h (by decide)) dX1_burst_101 (fun μ z_7 ez_7 hJ => ?_)
      refine aw_aload_n X dX1_burst_104 rfl ?_
      refine aw_dup X dX1_burst_105 rfl ?_
      refine aw_jget X hJ f_X1_61 rfl dX1_burst_106 ?_
      refine aw_iload X dX1_burst_109 rfl ?_
      refine aw_iload X dX1_burst_111 rfl ?_
      refine aw_isub X dX1_burst_113 ?_
      refine aw_iadd X dX1_burst_114 ?_
      refine aw_jput X hJ 11 (by decide) (by decide) 9 rfl f_X1_61 (fun h => absurd h (by decide)) dX1_burst_115 (fun μ z_8 ez_8 hJ => ?_)
      exact aw_vret X hQ dX1_burst_118 ⟨rfl, hJ.to (by subst ez_1 ez_2 ez_5 ez_6 ez_7 ez_8; simp [gBurst, c20_3, c52_4])⟩
    · skip
      refine aw_iload X dX1_burst_55 rfl ?_
      refine aw_sipush X (200) dX1_burst_57 rfl ?_
      refine aw_aload_n X dX1_burst_60 rfl ?_
      refine aw_jget X hJ f_X1_58 rfl dX1_burst_61 ?_
      refine aw_isub X dX1_burst_64 ?_
      refine aw_min X l_X1_158 (by exact ⟨by decide, Nat.le_of_ble_eq_true rfl⟩) (by decide) dX1_burst_65 ?_
      refine aw_goto (tgt := 72) X dX1_burst_68 (by decide) ?_
      refine aw_istore X dX1_burst_72 rfl (by decide) ?_
      refine aw_aload_n X dX1_burst_74 rfl ?_
      refine aw_iload_n X dX1_burst_75 rfl ?_
      refine aw_dup2 X dX1_burst_76 rfl rfl ?_
      refine aw_uald X hJ (0) (by decide) (tz (0) (tn (z (hz (i) 2)))) (isG_in c20_3) rfl dX1_burst_77 ?_
      refine aw_iload X dX1_burst_78 rfl ?_
      refine aw_isub X dX1_burst_80 ?_
      refine aw_uast X hJ (0) (by decide) (tz (0) (tn (z (hz (i) 2)))) (isG_in c20_3) rfl dX1_burst_81 (fun μ z_5 ez_5 hJ => ?_)
      refine aw_aload_n X dX1_burst_82 rfl ?_
      refine aw_jget X hJ f_X1_29 rfl dX1_burst_83 ?_
      refine aw_iload_n X dX1_burst_86 rfl ?_
      refine aw_dup2 X dX1_burst_87 rfl rfl ?_
      refine aw_jald X hJ 3 (by decide) (22 + tn (z (hz (i) 2))) (isG_in c20_3) (by rfl) dX1_burst_88 ?_
      refine aw_iload X dX1_burst_89 rfl ?_
      refine aw_iadd X dX1_burst_91 ?_
      refine aw_jast X hJ 3 (by decide) (22 + tn (z (hz (i) 2))) (isG_in c20_3) (by rfl) dX1_burst_92 (fun μ z_6 ez_6 hJ => ?_)
      refine aw_aload_n X dX1_burst_93 rfl ?_
      refine aw_dup X dX1_burst_94 rfl ?_
      refine aw_jget X hJ f_X1_58 rfl dX1_burst_95 ?_
      refine aw_iload X dX1_burst_98 rfl ?_
      refine aw_iadd X dX1_burst_100 ?_
      refine aw_jput X hJ 10 (by decide) (by decide) 8 rfl f_X1_58 (fun h => absurd h (by decide)) dX1_burst_101 (fun μ z_7 ez_7 hJ => ?_)
      refine aw_aload_n X dX1_burst_104 rfl ?_
      refine aw_dup X dX1_burst_105 rfl ?_
      refine aw_jget X hJ f_X1_61 rfl dX1_burst_106 ?_
      refine aw_iload X dX1_burst_109 rfl ?_
      refine aw_iload X dX1_burst_111 rfl ?_
      refine aw_isub X dX1_burst_113 ?_
      refine aw_iadd X dX1_burst_114 ?_
      refine aw_jput X hJ 11 (by decide) (by decide) 9 rfl f_X1_61 (fun h => absurd h (by decide)) dX1_burst_115 (fun μ z_8 ez_8 hJ => ?_)
      exact aw_vret X hQ dX1_burst_118 ⟨rfl, hJ.to (by subst ez_1 ez_2 ez_5 ez_6 ez_7 ez_8; simp [gBurst, c20_3, c52_4])⟩
  · skip
    exact aw_vret X hQ dX1_burst_23 ⟨rfl, hJ.to (by subst ez_1 ez_2; simp [gBurst, c20_3])⟩

set_option maxHeartbeats 4000000 in
set_option maxRecDepth 100000 in
theorem c_X1_tearBoom (l : Launch) (U : xU) (μ0 : xH) (sh : Nat → Nat) (z : xV) (hJ0 : JRep U μ0 sh z) : CtK l U yX1_tearBoom cX1_tearBoom 2 none ({ frames := 2, cells := 0, slots := 0, locals := 43 } : Room) [.ref (sh 0)] μ0 sh (gTear z) := by
  refine Ct.of [some (.ref (sh 0)), none] (by decide +kernel) rfl (Nat.le_of_ble_eq_true rfl) (fun K Q X hnm hQ => ?_)
  have hJ := JR.rf hJ0
  refine aw_aload_n X dX1_tearBoom_0 rfl ?_
  refine aw_aload_n X dX1_tearBoom_1 rfl ?_
  refine aw_jget X hJ f_X1_52 rfl dX1_tearBoom_2 ?_
  refine aw_cVF (As := [.int _]) X (c_X1_tideAt (kl K) U _ sh _ hJ.1 _) s_X1_94 k_X1_tideAt (by decide) ⟨rfl, rfl⟩ ⟨Nat.zero_le _, Nat.zero_le _⟩ rfl (by exact Nat.le_of_ble_eq_true rfl) hJ.g0 rfl dX1_tearBoom_5 ?_
  refine aw_aload_n X dX1_tearBoom_8 rfl ?_
  refine aw_aload_n X dX1_tearBoom_9 rfl ?_
  refine aw_jget X hJ f_X1_52 rfl dX1_tearBoom_10 ?_
  refine aw_iconst X (1) dX1_tearBoom_13 rfl ?_
  refine aw_isub X dX1_tearBoom_14 ?_
  refine aw_cVF (As := [.int _]) X (c_X1_tideAt (kl K) U _ sh _ hJ.1 _) s_X1_94 k_X1_tideAt (by decide) ⟨rfl, rfl⟩ ⟨Nat.zero_le _, Nat.zero_le _⟩ rfl (by exact Nat.le_of_ble_eq_true rfl) hJ.g0 rfl dX1_tearBoom_15 ?_
  refine aw_isub X dX1_tearBoom_18 ?_
  refine aw_abs X l_X1_179 (by exact ⟨by decide, Nat.le_of_ble_eq_true rfl⟩) (by decide) dX1_tearBoom_19 ?_
  refine aw_istore_n X dX1_tearBoom_22 rfl (by decide) ?_
  refine aw_aload_n X dX1_tearBoom_23 rfl ?_
  refine aw_jget X hJ f_X1_55 rfl dX1_tearBoom_24 ?_
  refine aw_if_eq (tgt := 36) X dX1_tearBoom_27 (by decide) (fun c27_1 => ?_) (fun c27_1 => ?_)
  · skip
    exact aw_vret X hQ dX1_tearBoom_36 ⟨rfl, hJ.to (by simp [gTear, c27_1])⟩
  · skip
    refine aw_iload_n X dX1_tearBoom_30 rfl ?_
    refine aw_bipush X (15) dX1_tearBoom_31 rfl ?_
    refine aw_icmp_gt (tgt := 37) X dX1_tearBoom_33 (by decide) (fun c33_2 => ?_) (fun c33_2 => ?_)
    · skip
      refine aw_aload_n X dX1_tearBoom_37 rfl ?_
      refine aw_iconst X (0) dX1_tearBoom_38 rfl ?_
      refine aw_jput X hJ 9 (by decide) (by decide) 7 rfl f_X1_55 (fun _ => by decide) dX1_tearBoom_39 (fun μ z_3 ez_3 hJ => ?_)
      refine aw_aload_n X dX1_tearBoom_42 rfl ?_
      refine aw_dup X dX1_tearBoom_43 rfl ?_
      refine aw_jget X hJ f_X1_61 rfl dX1_tearBoom_44 ?_
      refine aw_aload_n X dX1_tearBoom_47 rfl ?_
      refine aw_jget X hJ f_X1_58 rfl dX1_tearBoom_48 ?_
      refine aw_iadd X dX1_tearBoom_51 ?_
      refine aw_jput X hJ 11 (by decide) (by decide) 9 rfl f_X1_61 (fun h => absurd h (by decide)) dX1_tearBoom_52 (fun μ z_4 ez_4 hJ => ?_)
      refine aw_aload_n X dX1_tearBoom_55 rfl ?_
      refine aw_iconst X (0) dX1_tearBoom_56 rfl ?_
      refine aw_jput X hJ 10 (by decide) (by decide) 8 rfl f_X1_58 (fun h => absurd h (by decide)) dX1_tearBoom_57 (fun μ z_5 ez_5 hJ => ?_)
      exact aw_vret X hQ dX1_tearBoom_60 ⟨rfl, hJ.to (by subst ez_3 ez_4 ez_5; simp [gTear, c27_1, c33_2, Int32.not_le.mpr c33_2])⟩
    · skip
      exact aw_vret X hQ dX1_tearBoom_36 ⟨rfl, hJ.to (by simp [gTear, c27_1, c33_2, Int32.not_lt.mp c33_2])⟩
