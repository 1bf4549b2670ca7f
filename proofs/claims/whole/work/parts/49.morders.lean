/-! the model's orders -/
def mCan (z : xV) : Bool :=
  if z 944 = 43 then decide (z 12 < 5) else if z 944 = 61 then kCon z (tn (z 946)) else if z 944 = 45 then isG (z (hz (tn (z 946)) 2))
  else if z 944 = 126 then kFlu z (tn (z 946)) else decide (z 6 + z 945 ≤ 9999)
def mAct (z : xV) : xV :=
  if z 944 = 43 then (aArr z (tn (z 12)) (z 930) (z 931) (z 932) (z 933)).2 else if z 944 = 61 then (aCon z (tn (z 946)) (z 947)).2 else if z 944 = 45 then (aDis z (tn (z 946))).2
  else if z 944 = 126 then (aFlu z (tn (z 946))).2 else (gHours z (tn (z 945))).2
def mOrdD (z : xV) : xV := if mCan z = true then mAct z else z
/-- an order that has been read, and has no fault -/
def mOk (z : xV) : Prop := z 944 = 43 ∨ (z 944 = 61 ∧ isG (z 946) = true ∧ isG (z 947) = true) ∨ (z 944 = 45 ∧ isG (z 946) = true) ∨ (z 944 = 126 ∧ isG (z 946) = true) ∨ (z 944 = 46 ∧ ∃ k, k ≤ 48 ∧ z 945 = nI k)
def mInv (z : xV) : Prop := IV z ∧ (∀ i, i < 4 → z (80 + i) = 0) ∧ ∃ hn, hn ≤ 9999 ∧ z 6 = nI hn
set_option maxHeartbeats 1000000 in
set_option maxRecDepth 100000 in
theorem c_X5_doOrder (l : Launch) (U : xU) (μ0 : xH) (ma : Nat → Nat) (m : xV) (hM0 : FRep U μ0 ma 5 FM m) (hiv : IV m) (h80 : ∀ i, i < 4 → m (80 + i) = 0) (hn : Nat) (h6 : m 6 = nI hn) (hb : hn ≤ 9999) (hok : mOk m) : CtFR l U yX5_doOrder cX5_doOrder 2 (some .boolean) ({ frames := 6, cells := 0, slots := 0, locals := 136 } : Room) [.ref (ma 0)] μ0 ma 5 FM (bI (mCan m)) (mOrdD m) := by
  refine Ct.of [some (.ref (ma 0)), none] (by decide +kernel) rfl (Nat.le_of_ble_eq_true rfl) (fun K Q X hnm hQ => ?_)
  have hM := FR.rf hM0
  rcases hok with ek | ⟨ek, hg, hg7⟩ | ⟨ek, hg⟩ | ⟨ek, hg⟩ | ⟨ek, pn, hpn, ep⟩
  · have hcan : mCan m = decide (m 12 < 5) := by simp [mCan, ek]
    refine aw_aload_n X dX5_doOrder_0 rfl ?_
    refine aw_fgetI X hM 10 (t := 0) (b := 944) (n := 0) rfl f_X5_182 dX5_doOrder_1 ?_
    refine aw_top (43) ek ?_
    refine aw_bipush X (43) dX5_doOrder_4 rfl ?_
    refine aw_icmp_ne_f (tgt := 28) X dX5_doOrder_6 (by decide) (by decide) ?_
    refine aw_aload_n X dX5_doOrder_9 rfl ?_
    refine aw_fgetA X hM 0 (t := 0) (b := 0) (n := 80) rfl f_X5_7 dX5_doOrder_10 ?_
    refine aw_bipush X (12) dX5_doOrder_13 rfl ?_
    refine aw_fiald X hM 0 (b := 0) (n := 80) rfl 12 (xin_d rfl) (by decide) dX5_doOrder_15 ?_
    refine aw_iconst X (5) dX5_doOrder_16 rfl ?_
    refine aw_icmp_ge (tgt := 24) X dX5_doOrder_17 (by decide) (fun c17_1 => ?_) (fun c17_1 => ?_)
    · skip
      have hc : mCan m = false := by rw [hcan]; exact decide_eq_false (Int32.not_lt.mpr c17_1)
      refine aw_iconst X (0) dX5_doOrder_24 rfl ?_
      refine aw_goto (tgt := 111) X dX5_doOrder_25 (by decide) ?_
      refine aw_istore_n X dX5_doOrder_111 rfl (by decide) ?_
      refine aw_iload_n X dX5_doOrder_112 rfl ?_
      refine aw_if_eq_t (tgt := 245) X dX5_doOrder_113 (by decide) (by decide) ?_
      refine aw_iload_n X dX5_doOrder_245 rfl ?_
      exact aw_zret X rfl hQ dX5_doOrder_246 ⟨congrArg (fun q => some (Value.int q)) (by rw [hc]; rfl), hM.to (by rw [mOrdD, if_neg (by rw [hc]; decide)])⟩
    · skip
      have hc : mCan m = true := by rw [hcan]; exact decide_eq_true (Int32.not_le.mp c17_1)
      obtain ⟨wn, -, hwn5, h12⟩ := rgN (lo := 0) (hi := 5) (by decide) (by decide) hiv.2.2.1
      have etw : tn (m 12) = wn := by rw [h12, tn, nI_clamp (by omega)]
      have hwn : wn < 5 := by
        rcases Nat.lt_or_ge wn 5 with q | q
        · exact q
        · exact absurd (by rw [h12, show wn = 5 by omega]; decide) c17_1
      refine aw_iconst X (1) dX5_doOrder_20 rfl ?_
      refine aw_goto (tgt := 111) X dX5_doOrder_21 (by decide) ?_
      refine aw_istore_n X dX5_doOrder_111 rfl (by decide) ?_
      refine aw_iload_n X dX5_doOrder_112 rfl ?_
      refine aw_if_eq_f (tgt := 245) X dX5_doOrder_113 (by decide) (by decide) ?_
      refine aw_aload_n X dX5_doOrder_116 rfl ?_
      refine aw_fgetI X hM 10 (t := 0) (b := 944) (n := 0) rfl f_X5_182 dX5_doOrder_117 ?_
      refine aw_top (43) ek ?_
      refine aw_lookup (off := 44) (tgt := 164) X dX5_doOrder_120 (by decide) (by decide) (by decide) ?_
      refine aw_aload_n X dX5_doOrder_164 rfl ?_
      refine aw_aload_n X dX5_doOrder_165 rfl ?_
      refine aw_fgetA X hM 14 (t := 0) (b := 930) (n := 4) rfl f_X5_29 dX5_doOrder_166 ?_
      refine aw_iconst X (0) dX5_doOrder_169 rfl ?_
      refine aw_fiald X hM 14 (b := 930) (n := 4) rfl 930 (xin_d rfl) (by decide) dX5_doOrder_170 ?_
      refine aw_aload_n X dX5_doOrder_171 rfl ?_
      refine aw_fgetA X hM 14 (t := 0) (b := 930) (n := 4) rfl f_X5_29 dX5_doOrder_172 ?_
      refine aw_iconst X (1) dX5_doOrder_175 rfl ?_
      refine aw_fiald X hM 14 (b := 930) (n := 4) rfl 931 (xin_d rfl) (by decide) dX5_doOrder_176 ?_
      refine aw_aload_n X dX5_doOrder_177 rfl ?_
      refine aw_fgetA X hM 14 (t := 0) (b := 930) (n := 4) rfl f_X5_29 dX5_doOrder_178 ?_
      refine aw_iconst X (2) dX5_doOrder_181 rfl ?_
      refine aw_fiald X hM 14 (b := 930) (n := 4) rfl 932 (xin_d rfl) (by decide) dX5_doOrder_182 ?_
      refine aw_aload_n X dX5_doOrder_183 rfl ?_
      refine aw_fgetA X hM 14 (t := 0) (b := 930) (n := 4) rfl f_X5_29 dX5_doOrder_184 ?_
      refine aw_iconst X (3) dX5_doOrder_187 rfl ?_
      refine aw_fiald X hM 14 (b := 930) (n := 4) rfl 933 (xin_d rfl) (by decide) dX5_doOrder_188 ?_
      refine aw_cVFR (As := [.int _, .int _, .int _, .int _]) X hM (c_X5_doArrive (kl K) U _ ma _ hM.1 hiv wn h12 hwn _ _ _ _) s_X5_104 k_X5_doArrive (by decide) ⟨rfl, rfl⟩ ⟨Nat.zero_le _, Nat.zero_le _⟩ rfl (by exact Nat.le_of_ble_eq_true rfl) rfl dX5_doOrder_189 (fun μ z_2 ez_2 hM => ?_)
      refine aw_pop X dX5_doOrder_192 rfl ?_
      refine aw_goto (tgt := 245) X dX5_doOrder_193 (by decide) ?_
      refine aw_iload_n X dX5_doOrder_245 rfl ?_
      exact aw_zret X rfl hQ dX5_doOrder_246 ⟨congrArg (fun q => some (Value.int q)) (by rw [hc]; rfl), hM.to (by rw [ez_2, mOrdD, if_pos hc]; simp [mAct, ek, etw])⟩
  · have hcan : mCan m = kCon m (tn (m 946)) := by simp [mCan, ek]
    refine aw_aload_n X dX5_doOrder_0 rfl ?_
    refine aw_fgetI X hM 10 (t := 0) (b := 944) (n := 0) rfl f_X5_182 dX5_doOrder_1 ?_
    refine aw_top (61) ek ?_
    refine aw_bipush X (43) dX5_doOrder_4 rfl ?_
    refine aw_icmp_ne_t (tgt := 28) X dX5_doOrder_6 (by decide) (by decide) ?_
    refine aw_aload_n X dX5_doOrder_28 rfl ?_
    refine aw_fgetI X hM 10 (t := 0) (b := 944) (n := 0) rfl f_X5_182 dX5_doOrder_29 ?_
    refine aw_top (61) ek ?_
    refine aw_bipush X (61) dX5_doOrder_32 rfl ?_
    refine aw_icmp_ne_f (tgt := 48) X dX5_doOrder_34 (by decide) (by decide) ?_
    refine aw_aload_n X dX5_doOrder_37 rfl ?_
    refine aw_aload_n X dX5_doOrder_38 rfl ?_
    refine aw_fgetI X hM 12 (t := 0) (b := 946) (n := 0) rfl f_X5_179 dX5_doOrder_39 ?_
    refine aw_cVFF (As := [.int _]) X hM (c_X5_canConnect (kl K) U _ ma _ hM.1 hiv hn h6 (by omega) _ (tn (m 946)) (isG_hv hg) (isG_tn hg)) s_X5_119 k_X5_canConnect (by decide) ⟨rfl, rfl⟩ ⟨Nat.zero_le _, Nat.zero_le _⟩ rfl (by exact Nat.le_of_ble_eq_true rfl) rfl dX5_doOrder_42 ?_
    refine aw_goto (tgt := 111) X dX5_doOrder_45 (by decide) ?_
    refine aw_istore_n X dX5_doOrder_111 rfl (by decide) ?_
    refine aw_iload_n X dX5_doOrder_112 rfl ?_
    refine aw_b_eq (tgt := 245) X dX5_doOrder_113 (by decide) (fun c113_1 => ?_) (fun c113_1 => ?_)
    · skip
      have hc : mCan m = false := by rw [hcan]; exact c113_1
      refine aw_iload_n X dX5_doOrder_245 rfl ?_
      exact aw_zret X (bI_nar _) hQ dX5_doOrder_246 ⟨congrArg (fun q => some (Value.int q)) (by rw [hcan]), hM.to (by rw [mOrdD, if_neg (by rw [hc]; decide)])⟩
    · skip
      have hc : mCan m = true := by rw [hcan]; exact c113_1
      refine aw_aload_n X dX5_doOrder_116 rfl ?_
      refine aw_fgetI X hM 10 (t := 0) (b := 944) (n := 0) rfl f_X5_182 dX5_doOrder_117 ?_
      refine aw_top (61) ek ?_
      refine aw_lookup (off := 76) (tgt := 196) X dX5_doOrder_120 (by decide) (by decide) (by decide) ?_
      refine aw_aload_n X dX5_doOrder_196 rfl ?_
      refine aw_aload_n X dX5_doOrder_197 rfl ?_
      refine aw_fgetI X hM 12 (t := 0) (b := 946) (n := 0) rfl f_X5_179 dX5_doOrder_198 ?_
      refine aw_aload_n X dX5_doOrder_201 rfl ?_
      refine aw_fgetI X hM 13 (t := 0) (b := 947) (n := 0) rfl f_X5_185 dX5_doOrder_202 ?_
      refine aw_cVFR (As := [.int _, .int _]) X hM (c_X5_doConnect (kl K) U _ ma _ hM.1 hiv _ (tn (m 946)) (isG_hv hg) (isG_tn hg) _ hg7) s_X5_122 k_X5_doConnect (by decide) ⟨rfl, rfl⟩ ⟨Nat.zero_le _, Nat.zero_le _⟩ rfl (by exact Nat.le_of_ble_eq_true rfl) rfl dX5_doOrder_205 (fun μ z_2 ez_2 hM => ?_)
      refine aw_pop X dX5_doOrder_208 rfl ?_
      refine aw_goto (tgt := 245) X dX5_doOrder_209 (by decide) ?_
      refine aw_iload_n X dX5_doOrder_245 rfl ?_
      exact aw_zret X (bI_nar _) hQ dX5_doOrder_246 ⟨congrArg (fun q => some (Value.int q)) (by rw [hcan]), hM.to (by rw [ez_2, mOrdD, if_pos hc]; simp [mAct, ek])⟩
  · have hcan : mCan m = isG (m (hz (tn (m 946)) 2)) := by simp [mCan, ek]
    refine aw_aload_n X dX5_doOrder_0 rfl ?_
    refine aw_fgetI X hM 10 (t := 0) (b := 944) (n := 0) rfl f_X5_182 dX5_doOrder_1 ?_
    refine aw_top (45) ek ?_
    refine aw_bipush X (43) dX5_doOrder_4 rfl ?_
    refine aw_icmp_ne_t (tgt := 28) X dX5_doOrder_6 (by decide) (by decide) ?_
    refine aw_aload_n X dX5_doOrder_28 rfl ?_
    refine aw_fgetI X hM 10 (t := 0) (b := 944) (n := 0) rfl f_X5_182 dX5_doOrder_29 ?_
    refine aw_top (45) ek ?_
    refine aw_bipush X (61) dX5_doOrder_32 rfl ?_
    refine aw_icmp_ne_t (tgt := 48) X dX5_doOrder_34 (by decide) (by decide) ?_
    refine aw_aload_n X dX5_doOrder_48 rfl ?_
    refine aw_fgetI X hM 10 (t := 0) (b := 944) (n := 0) rfl f_X5_182 dX5_doOrder_49 ?_
    refine aw_top (45) ek ?_
    refine aw_bipush X (45) dX5_doOrder_52 rfl ?_
    refine aw_icmp_ne_f (tgt := 68) X dX5_doOrder_54 (by decide) (by decide) ?_
    refine aw_aload_n X dX5_doOrder_57 rfl ?_
    refine aw_aload_n X dX5_doOrder_58 rfl ?_
    refine aw_fgetI X hM 12 (t := 0) (b := 946) (n := 0) rfl f_X5_179 dX5_doOrder_59 ?_
    refine aw_cVFF (As := [.int _]) X hM (c_X5_isConnected (kl K) U _ ma _ hM.1 _ (tn (m 946)) (isG_hv hg) (isG_tn hg) ((hiv.2.2.2.2.2.2.1 (tn (m 946)) (isG_tn hg)).2.2.1)) s_X5_66 k_X5_isConnected (by decide) ⟨rfl, rfl⟩ ⟨Nat.zero_le _, Nat.zero_le _⟩ rfl (by exact Nat.le_of_ble_eq_true rfl) rfl dX5_doOrder_62 ?_
    refine aw_goto (tgt := 111) X dX5_doOrder_65 (by decide) ?_
    refine aw_istore_n X dX5_doOrder_111 rfl (by decide) ?_
    refine aw_iload_n X dX5_doOrder_112 rfl ?_
    refine aw_b_eq (tgt := 245) X dX5_doOrder_113 (by decide) (fun c113_1 => ?_) (fun c113_1 => ?_)
    · skip
      have hc : mCan m = false := by rw [hcan]; exact c113_1
      refine aw_iload_n X dX5_doOrder_245 rfl ?_
      exact aw_zret X (bI_nar _) hQ dX5_doOrder_246 ⟨congrArg (fun q => some (Value.int q)) (by rw [hcan]), hM.to (by rw [mOrdD, if_neg (by rw [hc]; decide)])⟩
    · skip
      have hc : mCan m = true := by rw [hcan]; exact c113_1
      refine aw_aload_n X dX5_doOrder_116 rfl ?_
      refine aw_fgetI X hM 10 (t := 0) (b := 944) (n := 0) rfl f_X5_182 dX5_doOrder_117 ?_
      refine aw_top (45) ek ?_
      refine aw_lookup (off := 92) (tgt := 212) X dX5_doOrder_120 (by decide) (by decide) (by decide) ?_
      refine aw_aload_n X dX5_doOrder_212 rfl ?_
      refine aw_aload_n X dX5_doOrder_213 rfl ?_
      refine aw_fgetI X hM 12 (t := 0) (b := 946) (n := 0) rfl f_X5_179 dX5_doOrder_214 ?_
      refine aw_cVFR (As := [.int _]) X hM (c_X5_doDisconnect (kl K) U _ ma _ hM.1 hiv _ (tn (m 946)) (isG_hv hg) (isG_tn hg)) s_X5_125 k_X5_doDisconnect (by decide) ⟨rfl, rfl⟩ ⟨Nat.zero_le _, Nat.zero_le _⟩ rfl (by exact Nat.le_of_ble_eq_true rfl) rfl dX5_doOrder_217 (fun μ z_2 ez_2 hM => ?_)
      refine aw_pop X dX5_doOrder_220 rfl ?_
      refine aw_goto (tgt := 245) X dX5_doOrder_221 (by decide) ?_
      refine aw_iload_n X dX5_doOrder_245 rfl ?_
      exact aw_zret X (bI_nar _) hQ dX5_doOrder_246 ⟨congrArg (fun q => some (Value.int q)) (by rw [hcan]), hM.to (by rw [ez_2, mOrdD, if_pos hc]; simp [mAct, ek])⟩
  · have hcan : mCan m = kFlu m (tn (m 946)) := by simp [mCan, ek]
    refine aw_aload_n X dX5_doOrder_0 rfl ?_
    refine aw_fgetI X hM 10 (t := 0) (b := 944) (n := 0) rfl f_X5_182 dX5_doOrder_1 ?_
    refine aw_top (126) ek ?_
    refine aw_bipush X (43) dX5_doOrder_4 rfl ?_
    refine aw_icmp_ne_t (tgt := 28) X dX5_doOrder_6 (by decide) (by decide) ?_
    refine aw_aload_n X dX5_doOrder_28 rfl ?_
    refine aw_fgetI X hM 10 (t := 0) (b := 944) (n := 0) rfl f_X5_182 dX5_doOrder_29 ?_
    refine aw_top (126) ek ?_
    refine aw_bipush X (61) dX5_doOrder_32 rfl ?_
    refine aw_icmp_ne_t (tgt := 48) X dX5_doOrder_34 (by decide) (by decide) ?_
    refine aw_aload_n X dX5_doOrder_48 rfl ?_
    refine aw_fgetI X hM 10 (t := 0) (b := 944) (n := 0) rfl f_X5_182 dX5_doOrder_49 ?_
    refine aw_top (126) ek ?_
    refine aw_bipush X (45) dX5_doOrder_52 rfl ?_
    refine aw_icmp_ne_t (tgt := 68) X dX5_doOrder_54 (by decide) (by decide) ?_
    refine aw_aload_n X dX5_doOrder_68 rfl ?_
    refine aw_fgetI X hM 10 (t := 0) (b := 944) (n := 0) rfl f_X5_182 dX5_doOrder_69 ?_
    refine aw_top (126) ek ?_
    refine aw_bipush X (126) dX5_doOrder_72 rfl ?_
    refine aw_icmp_ne_f (tgt := 88) X dX5_doOrder_74 (by decide) (by decide) ?_
    refine aw_aload_n X dX5_doOrder_77 rfl ?_
    refine aw_aload_n X dX5_doOrder_78 rfl ?_
    refine aw_fgetI X hM 12 (t := 0) (b := 946) (n := 0) rfl f_X5_179 dX5_doOrder_79 ?_
    refine aw_cVFF (As := [.int _]) X hM (c_X5_canFlush (kl K) U _ ma _ hM.1 hiv _ (tn (m 946)) (isG_hv hg) (isG_tn hg)) s_X5_128 k_X5_canFlush (by decide) ⟨rfl, rfl⟩ ⟨Nat.zero_le _, Nat.zero_le _⟩ rfl (by exact Nat.le_of_ble_eq_true rfl) rfl dX5_doOrder_82 ?_
    refine aw_goto (tgt := 111) X dX5_doOrder_85 (by decide) ?_
    refine aw_istore_n X dX5_doOrder_111 rfl (by decide) ?_
    refine aw_iload_n X dX5_doOrder_112 rfl ?_
    refine aw_b_eq (tgt := 245) X dX5_doOrder_113 (by decide) (fun c113_1 => ?_) (fun c113_1 => ?_)
    · skip
      have hc : mCan m = false := by rw [hcan]; exact c113_1
      refine aw_iload_n X dX5_doOrder_245 rfl ?_
      exact aw_zret X (bI_nar _) hQ dX5_doOrder_246 ⟨congrArg (fun q => some (Value.int q)) (by rw [hcan]), hM.to (by rw [mOrdD, if_neg (by rw [hc]; decide)])⟩
    · skip
      have hc : mCan m = true := by rw [hcan]; exact c113_1
      have hgf : isG (m (hz (tn (m 946)) 1)) = true := by
        have q := c113_1
        unfold kFlu at q
        simp only [Bool.and_eq_true] at q
        exact q.2
      refine aw_aload_n X dX5_doOrder_116 rfl ?_
      refine aw_fgetI X hM 10 (t := 0) (b := 944) (n := 0) rfl f_X5_182 dX5_doOrder_117 ?_
      refine aw_top (126) ek ?_
      refine aw_lookup (off := 104) (tgt := 224) X dX5_doOrder_120 (by decide) (by decide) (by decide) ?_
      refine aw_aload_n X dX5_doOrder_224 rfl ?_
      refine aw_aload_n X dX5_doOrder_225 rfl ?_
      refine aw_fgetI X hM 12 (t := 0) (b := 946) (n := 0) rfl f_X5_179 dX5_doOrder_226 ?_
      refine aw_cVFR (As := [.int _]) X hM (c_X5_doFlush (kl K) U _ ma _ hM.1 hiv _ (tn (m 946)) (isG_hv hg) (isG_tn hg) hgf) s_X5_131 k_X5_doFlush (by decide) ⟨rfl, rfl⟩ ⟨Nat.zero_le _, Nat.zero_le _⟩ rfl (by exact Nat.le_of_ble_eq_true rfl) rfl dX5_doOrder_229 (fun μ z_2 ez_2 hM => ?_)
      refine aw_pop X dX5_doOrder_232 rfl ?_
      refine aw_goto (tgt := 245) X dX5_doOrder_233 (by decide) ?_
      refine aw_iload_n X dX5_doOrder_245 rfl ?_
      exact aw_zret X (bI_nar _) hQ dX5_doOrder_246 ⟨congrArg (fun q => some (Value.int q)) (by rw [hcan]), hM.to (by rw [ez_2, mOrdD, if_pos hc]; simp [mAct, ek])⟩
  · have hcan : mCan m = decide (m 6 + m 945 ≤ 9999) := by simp [mCan, ek]
    refine aw_aload_n X dX5_doOrder_0 rfl ?_
    refine aw_fgetI X hM 10 (t := 0) (b := 944) (n := 0) rfl f_X5_182 dX5_doOrder_1 ?_
    refine aw_top (46) ek ?_
    refine aw_bipush X (43) dX5_doOrder_4 rfl ?_
    refine aw_icmp_ne_t (tgt := 28) X dX5_doOrder_6 (by decide) (by decide) ?_
    refine aw_aload_n X dX5_doOrder_28 rfl ?_
    refine aw_fgetI X hM 10 (t := 0) (b := 944) (n := 0) rfl f_X5_182 dX5_doOrder_29 ?_
    refine aw_top (46) ek ?_
    refine aw_bipush X (61) dX5_doOrder_32 rfl ?_
    refine aw_icmp_ne_t (tgt := 48) X dX5_doOrder_34 (by decide) (by decide) ?_
    refine aw_aload_n X dX5_doOrder_48 rfl ?_
    refine aw_fgetI X hM 10 (t := 0) (b := 944) (n := 0) rfl f_X5_182 dX5_doOrder_49 ?_
    refine aw_top (46) ek ?_
    refine aw_bipush X (45) dX5_doOrder_52 rfl ?_
    refine aw_icmp_ne_t (tgt := 68) X dX5_doOrder_54 (by decide) (by decide) ?_
    refine aw_aload_n X dX5_doOrder_68 rfl ?_
    refine aw_fgetI X hM 10 (t := 0) (b := 944) (n := 0) rfl f_X5_182 dX5_doOrder_69 ?_
    refine aw_top (46) ek ?_
    refine aw_bipush X (126) dX5_doOrder_72 rfl ?_
    refine aw_icmp_ne_t (tgt := 88) X dX5_doOrder_74 (by decide) (by decide) ?_
    refine aw_aload_n X dX5_doOrder_88 rfl ?_
    refine aw_fgetA X hM 0 (t := 0) (b := 0) (n := 80) rfl f_X5_7 dX5_doOrder_89 ?_
    refine aw_bipush X (6) dX5_doOrder_92 rfl ?_
    refine aw_fiald X hM 0 (b := 0) (n := 80) rfl 6 (xin_d rfl) (by decide) dX5_doOrder_94 ?_
    refine aw_aload_n X dX5_doOrder_95 rfl ?_
    refine aw_fgetI X hM 11 (t := 0) (b := 945) (n := 0) rfl f_X5_170 dX5_doOrder_96 ?_
    refine aw_iadd X dX5_doOrder_99 ?_
    refine aw_sipush X (9999) dX5_doOrder_100 rfl ?_
    refine aw_icmp_gt (tgt := 110) X dX5_doOrder_103 (by decide) (fun c103_1 => ?_) (fun c103_1 => ?_)
    · skip
      have hc : mCan m = false := by rw [hcan]; exact decide_eq_false (Int32.not_le.mpr c103_1)
      refine aw_iconst X (0) dX5_doOrder_110 rfl ?_
      refine aw_istore_n X dX5_doOrder_111 rfl (by decide) ?_
      refine aw_iload_n X dX5_doOrder_112 rfl ?_
      refine aw_if_eq_t (tgt := 245) X dX5_doOrder_113 (by decide) (by decide) ?_
      refine aw_iload_n X dX5_doOrder_245 rfl ?_
      exact aw_zret X rfl hQ dX5_doOrder_246 ⟨congrArg (fun q => some (Value.int q)) (by rw [hc]; rfl), hM.to (by rw [mOrdD, if_neg (by rw [hc]; decide)])⟩
    · skip
      have hc : mCan m = true := by rw [hcan]; exact decide_eq_true (Int32.not_lt.mp c103_1)
      refine aw_iconst X (1) dX5_doOrder_106 rfl ?_
      refine aw_goto (tgt := 111) X dX5_doOrder_107 (by decide) ?_
      refine aw_istore_n X dX5_doOrder_111 rfl (by decide) ?_
      refine aw_iload_n X dX5_doOrder_112 rfl ?_
      refine aw_if_eq_f (tgt := 245) X dX5_doOrder_113 (by decide) (by decide) ?_
      refine aw_aload_n X dX5_doOrder_116 rfl ?_
      refine aw_fgetI X hM 10 (t := 0) (b := 944) (n := 0) rfl f_X5_182 dX5_doOrder_117 ?_
      refine aw_top (46) ek ?_
      refine aw_lookup (off := 116) (tgt := 236) X dX5_doOrder_120 (by decide) (by decide) (by decide) ?_
      refine aw_aload_n X dX5_doOrder_236 rfl ?_
      refine aw_aload_n X dX5_doOrder_237 rfl ?_
      refine aw_fgetI X hM 11 (t := 0) (b := 945) (n := 0) rfl f_X5_170 dX5_doOrder_238 ?_
      refine aw_cVFR (As := [.int _]) X hM (c_X5_doPass (kl K) U _ ma _ hM.1 hiv h80 hn h6 hb _ pn ep (by omega)) s_X5_140 k_X5_doPass (by decide) ⟨rfl, rfl⟩ ⟨Nat.zero_le _, Nat.zero_le _⟩ rfl (by exact Nat.le_of_ble_eq_true rfl) rfl dX5_doOrder_241 (fun μ z_2 ez_2 hM => ?_)
      refine aw_pop X dX5_doOrder_244 rfl ?_
      refine aw_iload_n X dX5_doOrder_245 rfl ?_
      exact aw_zret X rfl hQ dX5_doOrder_246 ⟨congrArg (fun q => some (Value.int q)) (by rw [hc]; rfl), hM.to (by rw [ez_2, mOrdD, if_pos hc]; simp [mAct, ek, ep, show tn (nI pn) = pn from nI_clamp (by omega)])⟩
