/-! the model's leaves -/
theorem ixg {x : Int32} (h : isG x = true) (b : Int32) (n : Nat) (hb : b = nI n) : b + x = nI (n + tn x) := by
  have e := isG_hv h
  generalize hq : tn x = q at e ⊢
  rw [hb, e, nI_add]
theorem cTide_nI {z : xV} {hn : Nat} (hb : hn < 2 ^ 31) : cTide z (nI hn) = xsV 3 (hn % 12) * z 1 / 10 := by
  have e : flm (nI hn) 12 = nI (hn % 12) := by
    rw [flm_eq]
    unfold fmv fmOf
    rw [show (12 : Int32) = nI 12 from rfl, pk_rem hb (by decide) (by decide), if_pos (nI_pos' (by omega))]
  unfold cTide
  rw [e, tn, nI_clamp (by omega), Int32.mul_comm]
theorem imin_lt (a b : Int32) : (if a < b then a else b) = imin a b := by
  unfold imin
  by_cases h : a < b
  · rw [if_pos h, if_neg (fun q => Int32.lt_irrefl (Int32.lt_trans h q))]
  · rw [if_neg h]
    by_cases h2 : b < a
    · rw [if_pos h2]
    · rw [if_neg h2]; exact Int32.le_antisymm (Int32.not_lt.mp h) (Int32.not_lt.mp h2)
theorem in03 (x : Int32) : (decide (0 ≤ x) && decide (x ≤ 3)) = isG x := by
  unfold isG
  have : x ≤ 3 ↔ x < 4 := by
    rw [i_le, i_lt]
    have e3 : (3 : Int32).toInt = 3 := rfl
    have e4 : (4 : Int32).toInt = 4 := rfl
    rw [e3, e4]
    exact ⟨fun h => by omega, fun h => by omega⟩
  rw [decide_eq_decide.mpr this]
theorem gv_0 {x : Int32} (h : gv x) : decide (0 ≤ x) = isG x := by
  rcases h with h | h
  · rw [h]; decide
  · rw [h]; unfold isG at h; simp at h; simp [h.1]
theorem xz_b {x : Int32} (h : xz x) : x = bI (decide (¬ x = 0)) := by
  rcases h with h | h <;> (rw [h]; decide)
def mIsT (z : xV) (p : Int32) : Bool := if p = 0 then decide (z 13 = 1) else decide (1 ≤ p) && decide (p ≤ z 12)
theorem ix_tz (p w : Nat) : (50 : Int32) + 5 * nI p + nI w = nI (tz p w) := by
  rw [show (5 : Int32) = nI 5 from rfl, show (50 : Int32) = nI 50 from rfl, pk_mul, nI_add, nI_add]; rfl
theorem ix_hz (p w : Nat) : (26 : Int32) + 6 * nI p + nI w = nI (hz p w) := by
  rw [show (6 : Int32) = nI 6 from rfl, show (26 : Int32) = nI 26 from rfl, pk_mul, nI_add, nI_add]; rfl
set_option maxHeartbeats 4000000 in
set_option maxRecDepth 100000 in
theorem c_X5_in (l : Launch) (U : xU) (μ : xH) (v a b : Int32) : CtF l U yX5_in cX5_in 3 (some .boolean) ({ frames := 0, cells := 0, slots := 0, locals := 0 } : Room) [.int v, .int a, .int b] μ (bI (decide (a ≤ v) && decide (v ≤ b))) := by
  refine Ct.of [some (.int v), some (.int a), some (.int b)] (by decide +kernel) rfl (Nat.le_of_ble_eq_true rfl) (fun K Q X hnm hQ => ?_)
  refine aw_iload_n X dX5_in_0 rfl ?_
  refine aw_iload_n X dX5_in_1 rfl ?_
  refine aw_icmp_lt (tgt := 14) X dX5_in_2 (by decide) (fun c2_1 => ?_) (fun c2_1 => ?_)
  · skip
    refine aw_iconst X (0) dX5_in_14 rfl ?_
    exact aw_zret X rfl hQ dX5_in_15 ⟨congrArg (fun q => some (Value.int q)) (by simp [bI, c2_1, Int32.not_le.mpr c2_1]), rfl⟩
  · skip
    refine aw_iload_n X dX5_in_5 rfl ?_
    refine aw_iload_n X dX5_in_6 rfl ?_
    refine aw_icmp_gt (tgt := 14) X dX5_in_7 (by decide) (fun c7_2 => ?_) (fun c7_2 => ?_)
    · skip
      refine aw_iconst X (0) dX5_in_14 rfl ?_
      exact aw_zret X rfl hQ dX5_in_15 ⟨congrArg (fun q => some (Value.int q)) (by simp [bI, c2_1, Int32.not_lt.mp c2_1, c7_2, Int32.not_le.mpr c7_2]), rfl⟩
    · skip
      refine aw_iconst X (1) dX5_in_10 rfl ?_
      refine aw_goto (tgt := 15) X dX5_in_11 (by decide) ?_
      exact aw_zret X rfl hQ dX5_in_15 ⟨congrArg (fun q => some (Value.int q)) (by simp [bI, c2_1, Int32.not_lt.mp c2_1, c7_2, Int32.not_lt.mp c7_2]), rfl⟩

set_option maxHeartbeats 4000000 in
set_option maxRecDepth 100000 in
theorem c_X5_least (l : Launch) (U : xU) (μ : xH) (a b : Int32) : CtF l U yX5_least cX5_least 2 (some .int) ({ frames := 0, cells := 0, slots := 0, locals := 0 } : Room) [.int a, .int b] μ (imin a b) := by
  refine Ct.of [some (.int a), some (.int b)] (by decide +kernel) rfl (Nat.le_of_ble_eq_true rfl) (fun K Q X hnm hQ => ?_)
  refine aw_iload_n X dX5_least_0 rfl ?_
  refine aw_iload_n X dX5_least_1 rfl ?_
  refine aw_icmp_ge (tgt := 9) X dX5_least_2 (by decide) (fun c2_1 => ?_) (fun c2_1 => ?_)
  · skip
    refine aw_iload_n X dX5_least_9 rfl ?_
    exact aw_iret X hQ dX5_least_10 ⟨congrArg (fun q => some (Value.int q)) (by simp [← imin_lt, c2_1, Int32.not_lt.mpr c2_1]), rfl⟩
  · skip
    refine aw_iload_n X dX5_least_5 rfl ?_
    refine aw_goto (tgt := 10) X dX5_least_6 (by decide) ?_
    exact aw_iret X hQ dX5_least_10 ⟨congrArg (fun q => some (Value.int q)) (by simp [← imin_lt, c2_1, Int32.not_le.mp c2_1]), rfl⟩

set_option maxHeartbeats 4000000 in
set_option maxRecDepth 100000 in
theorem c_X5_isHose (l : Launch) (U : xU) (μ : xH) (a : Int32) : CtF l U yX5_isHose cX5_isHose 1 (some .boolean) ({ frames := 1, cells := 0, slots := 0, locals := 22 } : Room) [.int a] μ (bI (isG a)) := by
  refine Ct.of [some (.int a)] (by decide +kernel) rfl (Nat.le_of_ble_eq_true rfl) (fun K Q X hnm hQ => ?_)
  refine aw_iload_n X dX5_isHose_0 rfl ?_
  refine aw_iconst X (0) dX5_isHose_1 rfl ?_
  refine aw_iconst X (3) dX5_isHose_2 rfl ?_
  refine aw_cSF (As := [.int _, .int _, .int _]) X (c_X5_in (kl K) U _ _ _ _) s_X5_59 k_X5_in (by decide) ⟨rfl, rfl⟩ ⟨Nat.zero_le _, Nat.zero_le _⟩ rfl (by exact Nat.le_of_ble_eq_true rfl) dX5_isHose_3 ?_
  exact aw_zret X (bI_nar _) hQ dX5_isHose_6 ⟨congrArg (fun q => some (Value.int q)) (congrArg bI (in03 a)), rfl⟩

set_option maxHeartbeats 4000000 in
set_option maxRecDepth 100000 in
theorem c_X5_isGrade (l : Launch) (U : xU) (μ : xH) (a : Int32) : CtF l U yX5_isGrade cX5_isGrade 1 (some .boolean) ({ frames := 1, cells := 0, slots := 0, locals := 22 } : Room) [.int a] μ (bI (isG a)) := by
  refine Ct.of [some (.int a)] (by decide +kernel) rfl (Nat.le_of_ble_eq_true rfl) (fun K Q X hnm hQ => ?_)
  refine aw_iload_n X dX5_isGrade_0 rfl ?_
  refine aw_iconst X (0) dX5_isGrade_1 rfl ?_
  refine aw_iconst X (3) dX5_isGrade_2 rfl ?_
  refine aw_cSF (As := [.int _, .int _, .int _]) X (c_X5_in (kl K) U _ _ _ _) s_X5_59 k_X5_in (by decide) ⟨rfl, rfl⟩ ⟨Nat.zero_le _, Nat.zero_le _⟩ rfl (by exact Nat.le_of_ble_eq_true rfl) dX5_isGrade_3 ?_
  exact aw_zret X (bI_nar _) hQ dX5_isGrade_6 ⟨congrArg (fun q => some (Value.int q)) (congrArg bI (in03 a)), rfl⟩

set_option maxHeartbeats 4000000 in
set_option maxRecDepth 100000 in
theorem c_X5_tideAt (l : Launch) (U : xU) (μ0 : xH) (ma : Nat → Nat) (m : xV) (hM0 : FRep U μ0 ma 5 FM m) (h : Int32) (hn : Nat) (hh : h = nI hn) (hb : hn < 2 ^ 31) : CtF l U yX5_tideAt cX5_tideAt 3 (some .int) ({ frames := 0, cells := 0, slots := 0, locals := 0 } : Room) [.ref (ma 0), .int h] μ0 (cTide m h) := by
  refine Ct.of [some (.ref (ma 0)), some (.int h), none] (by decide +kernel) rfl (Nat.le_of_ble_eq_true rfl) (fun K Q X hnm hQ => ?_)
  have hM := FR.rf hM0
  subst hh
  refine aw_iconst X (0) dX5_tideAt_0 rfl ?_
  refine aw_istore_n X dX5_tideAt_1 rfl (by decide) ?_
  refine aw_iload_n X dX5_tideAt_2 rfl ?_
  refine aw_bipush X (6) dX5_tideAt_3 rfl ?_
  refine aw_irem X dX5_tideAt_5 (by decide) ?_
  have h12 : hn % 12 < 12 := Nat.mod_lt _ (by decide)
  by_cases e0 : hn % 12 = 0
  · refine aw_top (0) (by rw [show (6 : Int32) = nI 6 from rfl, pk_rem hb (by decide) (by decide), show hn % 6 = 0 by omega]; rfl) ?_
    refine aw_tableV (tgt := 44) X (0) rfl dX5_tideAt_6 (by decide) (by decide) rfl (by decide) ?_
    refine aw_iconst X (0) dX5_tideAt_44 rfl ?_
    refine aw_istore_n X dX5_tideAt_45 rfl (by decide) ?_
    refine aw_goto (tgt := 63) X dX5_tideAt_46 (by decide) ?_
    refine aw_iload_n X dX5_tideAt_63 rfl ?_
    refine aw_bipush X (12) dX5_tideAt_64 rfl ?_
    refine aw_irem X dX5_tideAt_66 (by decide) ?_
    refine aw_top (0) (by rw [show (12 : Int32) = nI 12 from rfl, pk_rem hb (by decide) (by decide), e0]; rfl) ?_
    refine aw_bipush X (6) dX5_tideAt_67 rfl ?_
    refine aw_icmp_ge_f (tgt := 76) X dX5_tideAt_69 (by decide) (by decide) ?_
    refine aw_iload_n X dX5_tideAt_72 rfl ?_
    refine aw_goto (tgt := 78) X dX5_tideAt_73 (by decide) ?_
    refine aw_aload_n X dX5_tideAt_78 rfl ?_
    refine aw_fgetA X hM 0 (t := 0) (b := 0) (n := 80) rfl f_X5_7 dX5_tideAt_79 ?_
    refine aw_iconst X (1) dX5_tideAt_82 rfl ?_
    refine aw_fiald X hM 0 (b := 0) (n := 80) rfl 1 (xin_d rfl) (by decide) dX5_tideAt_83 ?_
    refine aw_imul X dX5_tideAt_84 ?_
    refine aw_bipush X (10) dX5_tideAt_85 rfl ?_
    refine aw_idiv X dX5_tideAt_87 (by decide) ?_
    exact aw_iret X hQ dX5_tideAt_88 ⟨congrArg (fun q => some (Value.int q)) (by rw [cTide_nI hb, e0]; rfl), rfl⟩
  by_cases e1 : hn % 12 = 1
  · refine aw_top (1) (by rw [show (6 : Int32) = nI 6 from rfl, pk_rem hb (by decide) (by decide), show hn % 6 = 1 by omega]; rfl) ?_
    refine aw_tableV (tgt := 49) X (1) rfl dX5_tideAt_6 (by decide) (by decide) rfl (by decide) ?_
    refine aw_iconst X (5) dX5_tideAt_49 rfl ?_
    refine aw_istore_n X dX5_tideAt_50 rfl (by decide) ?_
    refine aw_goto (tgt := 63) X dX5_tideAt_51 (by decide) ?_
    refine aw_iload_n X dX5_tideAt_63 rfl ?_
    refine aw_bipush X (12) dX5_tideAt_64 rfl ?_
    refine aw_irem X dX5_tideAt_66 (by decide) ?_
    refine aw_top (1) (by rw [show (12 : Int32) = nI 12 from rfl, pk_rem hb (by decide) (by decide), e1]; rfl) ?_
    refine aw_bipush X (6) dX5_tideAt_67 rfl ?_
    refine aw_icmp_ge_f (tgt := 76) X dX5_tideAt_69 (by decide) (by decide) ?_
    refine aw_iload_n X dX5_tideAt_72 rfl ?_
    refine aw_goto (tgt := 78) X dX5_tideAt_73 (by decide) ?_
    refine aw_aload_n X dX5_tideAt_78 rfl ?_
    refine aw_fgetA X hM 0 (t := 0) (b := 0) (n := 80) rfl f_X5_7 dX5_tideAt_79 ?_
    refine aw_iconst X (1) dX5_tideAt_82 rfl ?_
    refine aw_fiald X hM 0 (b := 0) (n := 80) rfl 1 (xin_d rfl) (by decide) dX5_tideAt_83 ?_
    refine aw_imul X dX5_tideAt_84 ?_
    refine aw_bipush X (10) dX5_tideAt_85 rfl ?_
    refine aw_idiv X dX5_tideAt_87 (by decide) ?_
    exact aw_iret X hQ dX5_tideAt_88 ⟨congrArg (fun q => some (Value.int q)) (by rw [cTide_nI hb, e1]; rfl), rfl⟩
  by_cases e2 : hn % 12 = 2
  · refine aw_top (2) (by rw [show (6 : Int32) = nI 6 from rfl, pk_rem hb (by decide) (by decide), show hn % 6 = 2 by omega]; rfl) ?_
    refine aw_tableV (tgt := 60) X (2) rfl dX5_tideAt_6 (by decide) (by decide) rfl (by decide) ?_
    refine aw_bipush X (9) dX5_tideAt_60 rfl ?_
    refine aw_istore_n X dX5_tideAt_62 rfl (by decide) ?_
    refine aw_iload_n X dX5_tideAt_63 rfl ?_
    refine aw_bipush X (12) dX5_tideAt_64 rfl ?_
    refine aw_irem X dX5_tideAt_66 (by decide) ?_
    refine aw_top (2) (by rw [show (12 : Int32) = nI 12 from rfl, pk_rem hb (by decide) (by decide), e2]; rfl) ?_
    refine aw_bipush X (6) dX5_tideAt_67 rfl ?_
    refine aw_icmp_ge_f (tgt := 76) X dX5_tideAt_69 (by decide) (by decide) ?_
    refine aw_iload_n X dX5_tideAt_72 rfl ?_
    refine aw_goto (tgt := 78) X dX5_tideAt_73 (by decide) ?_
    refine aw_aload_n X dX5_tideAt_78 rfl ?_
    refine aw_fgetA X hM 0 (t := 0) (b := 0) (n := 80) rfl f_X5_7 dX5_tideAt_79 ?_
    refine aw_iconst X (1) dX5_tideAt_82 rfl ?_
    refine aw_fiald X hM 0 (b := 0) (n := 80) rfl 1 (xin_d rfl) (by decide) dX5_tideAt_83 ?_
    refine aw_imul X dX5_tideAt_84 ?_
    refine aw_bipush X (10) dX5_tideAt_85 rfl ?_
    refine aw_idiv X dX5_tideAt_87 (by decide) ?_
    exact aw_iret X hQ dX5_tideAt_88 ⟨congrArg (fun q => some (Value.int q)) (by rw [cTide_nI hb, e2]; rfl), rfl⟩
  by_cases e3 : hn % 12 = 3
  · refine aw_top (3) (by rw [show (6 : Int32) = nI 6 from rfl, pk_rem hb (by decide) (by decide), show hn % 6 = 3 by omega]; rfl) ?_
    refine aw_tableV (tgt := 54) X (3) rfl dX5_tideAt_6 (by decide) (by decide) rfl (by decide) ?_
    refine aw_bipush X (10) dX5_tideAt_54 rfl ?_
    refine aw_istore_n X dX5_tideAt_56 rfl (by decide) ?_
    refine aw_goto (tgt := 63) X dX5_tideAt_57 (by decide) ?_
    refine aw_iload_n X dX5_tideAt_63 rfl ?_
    refine aw_bipush X (12) dX5_tideAt_64 rfl ?_
    refine aw_irem X dX5_tideAt_66 (by decide) ?_
    refine aw_top (3) (by rw [show (12 : Int32) = nI 12 from rfl, pk_rem hb (by decide) (by decide), e3]; rfl) ?_
    refine aw_bipush X (6) dX5_tideAt_67 rfl ?_
    refine aw_icmp_ge_f (tgt := 76) X dX5_tideAt_69 (by decide) (by decide) ?_
    refine aw_iload_n X dX5_tideAt_72 rfl ?_
    refine aw_goto (tgt := 78) X dX5_tideAt_73 (by decide) ?_
    refine aw_aload_n X dX5_tideAt_78 rfl ?_
    refine aw_fgetA X hM 0 (t := 0) (b := 0) (n := 80) rfl f_X5_7 dX5_tideAt_79 ?_
    refine aw_iconst X (1) dX5_tideAt_82 rfl ?_
    refine aw_fiald X hM 0 (b := 0) (n := 80) rfl 1 (xin_d rfl) (by decide) dX5_tideAt_83 ?_
    refine aw_imul X dX5_tideAt_84 ?_
    refine aw_bipush X (10) dX5_tideAt_85 rfl ?_
    refine aw_idiv X dX5_tideAt_87 (by decide) ?_
    exact aw_iret X hQ dX5_tideAt_88 ⟨congrArg (fun q => some (Value.int q)) (by rw [cTide_nI hb, e3]; rfl), rfl⟩
  by_cases e4 : hn % 12 = 4
  · refine aw_top (4) (by rw [show (6 : Int32) = nI 6 from rfl, pk_rem hb (by decide) (by decide), show hn % 6 = 4 by omega]; rfl) ?_
    refine aw_tableV (tgt := 60) X (4) rfl dX5_tideAt_6 (by decide) (by decide) rfl (by decide) ?_
    refine aw_bipush X (9) dX5_tideAt_60 rfl ?_
    refine aw_istore_n X dX5_tideAt_62 rfl (by decide) ?_
    refine aw_iload_n X dX5_tideAt_63 rfl ?_
    refine aw_bipush X (12) dX5_tideAt_64 rfl ?_
    refine aw_irem X dX5_tideAt_66 (by decide) ?_
    refine aw_top (4) (by rw [show (12 : Int32) = nI 12 from rfl, pk_rem hb (by decide) (by decide), e4]; rfl) ?_
    refine aw_bipush X (6) dX5_tideAt_67 rfl ?_
    refine aw_icmp_ge_f (tgt := 76) X dX5_tideAt_69 (by decide) (by decide) ?_
    refine aw_iload_n X dX5_tideAt_72 rfl ?_
    refine aw_goto (tgt := 78) X dX5_tideAt_73 (by decide) ?_
    refine aw_aload_n X dX5_tideAt_78 rfl ?_
    refine aw_fgetA X hM 0 (t := 0) (b := 0) (n := 80) rfl f_X5_7 dX5_tideAt_79 ?_
    refine aw_iconst X (1) dX5_tideAt_82 rfl ?_
    refine aw_fiald X hM 0 (b := 0) (n := 80) rfl 1 (xin_d rfl) (by decide) dX5_tideAt_83 ?_
    refine aw_imul X dX5_tideAt_84 ?_
    refine aw_bipush X (10) dX5_tideAt_85 rfl ?_
    refine aw_idiv X dX5_tideAt_87 (by decide) ?_
    exact aw_iret X hQ dX5_tideAt_88 ⟨congrArg (fun q => some (Value.int q)) (by rw [cTide_nI hb, e4]; rfl), rfl⟩
  by_cases e5 : hn % 12 = 5
  · refine aw_top (5) (by rw [show (6 : Int32) = nI 6 from rfl, pk_rem hb (by decide) (by decide), show hn % 6 = 5 by omega]; rfl) ?_
    refine aw_tableV (tgt := 49) X (5) rfl dX5_tideAt_6 (by decide) (by decide) rfl (by decide) ?_
    refine aw_iconst X (5) dX5_tideAt_49 rfl ?_
    refine aw_istore_n X dX5_tideAt_50 rfl (by decide) ?_
    refine aw_goto (tgt := 63) X dX5_tideAt_51 (by decide) ?_
    refine aw_iload_n X dX5_tideAt_63 rfl ?_
    refine aw_bipush X (12) dX5_tideAt_64 rfl ?_
    refine aw_irem X dX5_tideAt_66 (by decide) ?_
    refine aw_top (5) (by rw [show (12 : Int32) = nI 12 from rfl, pk_rem hb (by decide) (by decide), e5]; rfl) ?_
    refine aw_bipush X (6) dX5_tideAt_67 rfl ?_
    refine aw_icmp_ge_f (tgt := 76) X dX5_tideAt_69 (by decide) (by decide) ?_
    refine aw_iload_n X dX5_tideAt_72 rfl ?_
    refine aw_goto (tgt := 78) X dX5_tideAt_73 (by decide) ?_
    refine aw_aload_n X dX5_tideAt_78 rfl ?_
    refine aw_fgetA X hM 0 (t := 0) (b := 0) (n := 80) rfl f_X5_7 dX5_tideAt_79 ?_
    refine aw_iconst X (1) dX5_tideAt_82 rfl ?_
    refine aw_fiald X hM 0 (b := 0) (n := 80) rfl 1 (xin_d rfl) (by decide) dX5_tideAt_83 ?_
    refine aw_imul X dX5_tideAt_84 ?_
    refine aw_bipush X (10) dX5_tideAt_85 rfl ?_
    refine aw_idiv X dX5_tideAt_87 (by decide) ?_
    exact aw_iret X hQ dX5_tideAt_88 ⟨congrArg (fun q => some (Value.int q)) (by rw [cTide_nI hb, e5]; rfl), rfl⟩
  by_cases e6 : hn % 12 = 6
  · refine aw_top (0) (by rw [show (6 : Int32) = nI 6 from rfl, pk_rem hb (by decide) (by decide), show hn % 6 = 0 by omega]; rfl) ?_
    refine aw_tableV (tgt := 44) X (0) rfl dX5_tideAt_6 (by decide) (by decide) rfl (by decide) ?_
    refine aw_iconst X (0) dX5_tideAt_44 rfl ?_
    refine aw_istore_n X dX5_tideAt_45 rfl (by decide) ?_
    refine aw_goto (tgt := 63) X dX5_tideAt_46 (by decide) ?_
    refine aw_iload_n X dX5_tideAt_63 rfl ?_
    refine aw_bipush X (12) dX5_tideAt_64 rfl ?_
    refine aw_irem X dX5_tideAt_66 (by decide) ?_
    refine aw_top (6) (by rw [show (12 : Int32) = nI 12 from rfl, pk_rem hb (by decide) (by decide), e6]; rfl) ?_
    refine aw_bipush X (6) dX5_tideAt_67 rfl ?_
    refine aw_icmp_ge_t (tgt := 76) X dX5_tideAt_69 (by decide) (by decide) ?_
    refine aw_iload_n X dX5_tideAt_76 rfl ?_
    refine aw_ineg X dX5_tideAt_77 ?_
    refine aw_aload_n X dX5_tideAt_78 rfl ?_
    refine aw_fgetA X hM 0 (t := 0) (b := 0) (n := 80) rfl f_X5_7 dX5_tideAt_79 ?_
    refine aw_iconst X (1) dX5_tideAt_82 rfl ?_
    refine aw_fiald X hM 0 (b := 0) (n := 80) rfl 1 (xin_d rfl) (by decide) dX5_tideAt_83 ?_
    refine aw_imul X dX5_tideAt_84 ?_
    refine aw_bipush X (10) dX5_tideAt_85 rfl ?_
    refine aw_idiv X dX5_tideAt_87 (by decide) ?_
    exact aw_iret X hQ dX5_tideAt_88 ⟨congrArg (fun q => some (Value.int q)) (by rw [cTide_nI hb, e6]; rfl), rfl⟩
  by_cases e7 : hn % 12 = 7
  · refine aw_top (1) (by rw [show (6 : Int32) = nI 6 from rfl, pk_rem hb (by decide) (by decide), show hn % 6 = 1 by omega]; rfl) ?_
    refine aw_tableV (tgt := 49) X (1) rfl dX5_tideAt_6 (by decide) (by decide) rfl (by decide) ?_
    refine aw_iconst X (5) dX5_tideAt_49 rfl ?_
    refine aw_istore_n X dX5_tideAt_50 rfl (by decide) ?_
    refine aw_goto (tgt := 63) X dX5_tideAt_51 (by decide) ?_
    refine aw_iload_n X dX5_tideAt_63 rfl ?_
    refine aw_bipush X (12) dX5_tideAt_64 rfl ?_
    refine aw_irem X dX5_tideAt_66 (by decide) ?_
    refine aw_top (7) (by rw [show (12 : Int32) = nI 12 from rfl, pk_rem hb (by decide) (by decide), e7]; rfl) ?_
    refine aw_bipush X (6) dX5_tideAt_67 rfl ?_
    refine aw_icmp_ge_t (tgt := 76) X dX5_tideAt_69 (by decide) (by decide) ?_
    refine aw_iload_n X dX5_tideAt_76 rfl ?_
    refine aw_ineg X dX5_tideAt_77 ?_
    refine aw_aload_n X dX5_tideAt_78 rfl ?_
    refine aw_fgetA X hM 0 (t := 0) (b := 0) (n := 80) rfl f_X5_7 dX5_tideAt_79 ?_
    refine aw_iconst X (1) dX5_tideAt_82 rfl ?_
    refine aw_fiald X hM 0 (b := 0) (n := 80) rfl 1 (xin_d rfl) (by decide) dX5_tideAt_83 ?_
    refine aw_imul X dX5_tideAt_84 ?_
    refine aw_bipush X (10) dX5_tideAt_85 rfl ?_
    refine aw_idiv X dX5_tideAt_87 (by decide) ?_
    exact aw_iret X hQ dX5_tideAt_88 ⟨congrArg (fun q => some (Value.int q)) (by rw [cTide_nI hb, e7]; rfl), rfl⟩
  by_cases e8 : hn % 12 = 8
  · refine aw_top (2) (by rw [show (6 : Int32) = nI 6 from rfl, pk_rem hb (by decide) (by decide), show hn % 6 = 2 by omega]; rfl) ?_
    refine aw_tableV (tgt := 60) X (2) rfl dX5_tideAt_6 (by decide) (by decide) rfl (by decide) ?_
    refine aw_bipush X (9) dX5_tideAt_60 rfl ?_
    refine aw_istore_n X dX5_tideAt_62 rfl (by decide) ?_
    refine aw_iload_n X dX5_tideAt_63 rfl ?_
    refine aw_bipush X (12) dX5_tideAt_64 rfl ?_
    refine aw_irem X dX5_tideAt_66 (by decide) ?_
    refine aw_top (8) (by rw [show (12 : Int32) = nI 12 from rfl, pk_rem hb (by decide) (by decide), e8]; rfl) ?_
    refine aw_bipush X (6) dX5_tideAt_67 rfl ?_
    refine aw_icmp_ge_t (tgt := 76) X dX5_tideAt_69 (by decide) (by decide) ?_
    refine aw_iload_n X dX5_tideAt_76 rfl ?_
    refine aw_ineg X dX5_tideAt_77 ?_
    refine aw_aload_n X dX5_tideAt_78 rfl ?_
    refine aw_fgetA X hM 0 (t := 0) (b := 0) (n := 80) rfl f_X5_7 dX5_tideAt_79 ?_
    refine aw_iconst X (1) dX5_tideAt_82 rfl ?_
    refine aw_fiald X hM 0 (b := 0) (n := 80) rfl 1 (xin_d rfl) (by decide) dX5_tideAt_83 ?_
    refine aw_imul X dX5_tideAt_84 ?_
    refine aw_bipush X (10) dX5_tideAt_85 rfl ?_
    refine aw_idiv X dX5_tideAt_87 (by decide) ?_
    exact aw_iret X hQ dX5_tideAt_88 ⟨congrArg (fun q => some (Value.int q)) (by rw [cTide_nI hb, e8]; rfl), rfl⟩
  by_cases e9 : hn % 12 = 9
  · refine aw_top (3) (by rw [show (6 : Int32) = nI 6 from rfl, pk_rem hb (by decide) (by decide), show hn % 6 = 3 by omega]; rfl) ?_
    refine aw_tableV (tgt := 54) X (3) rfl dX5_tideAt_6 (by decide) (by decide) rfl (by decide) ?_
    refine aw_bipush X (10) dX5_tideAt_54 rfl ?_
    refine aw_istore_n X dX5_tideAt_56 rfl (by decide) ?_
    refine aw_goto (tgt := 63) X dX5_tideAt_57 (by decide) ?_
    refine aw_iload_n X dX5_tideAt_63 rfl ?_
    refine aw_bipush X (12) dX5_tideAt_64 rfl ?_
    refine aw_irem X dX5_tideAt_66 (by decide) ?_
    refine aw_top (9) (by rw [show (12 : Int32) = nI 12 from rfl, pk_rem hb (by decide) (by decide), e9]; rfl) ?_
    refine aw_bipush X (6) dX5_tideAt_67 rfl ?_
    refine aw_icmp_ge_t (tgt := 76) X dX5_tideAt_69 (by decide) (by decide) ?_
    refine aw_iload_n X dX5_tideAt_76 rfl ?_
    refine aw_ineg X dX5_tideAt_77 ?_
    refine aw_aload_n X dX5_tideAt_78 rfl ?_
    refine aw_fgetA X hM 0 (t := 0) (b := 0) (n := 80) rfl f_X5_7 dX5_tideAt_79 ?_
    refine aw_iconst X (1) dX5_tideAt_82 rfl ?_
    refine aw_fiald X hM 0 (b := 0) (n := 80) rfl 1 (xin_d rfl) (by decide) dX5_tideAt_83 ?_
    refine aw_imul X dX5_tideAt_84 ?_
    refine aw_bipush X (10) dX5_tideAt_85 rfl ?_
    refine aw_idiv X dX5_tideAt_87 (by decide) ?_
    exact aw_iret X hQ dX5_tideAt_88 ⟨congrArg (fun q => some (Value.int q)) (by rw [cTide_nI hb, e9]; rfl), rfl⟩
  by_cases e10 : hn % 12 = 10
  · refine aw_top (4) (by rw [show (6 : Int32) = nI 6 from rfl, pk_rem hb (by decide) (by decide), show hn % 6 = 4 by omega]; rfl) ?_
    refine aw_tableV (tgt := 60) X (4) rfl dX5_tideAt_6 (by decide) (by decide) rfl (by decide) ?_
    refine aw_bipush X (9) dX5_tideAt_60 rfl ?_
    refine aw_istore_n X dX5_tideAt_62 rfl (by decide) ?_
    refine aw_iload_n X dX5_tideAt_63 rfl ?_
    refine aw_bipush X (12) dX5_tideAt_64 rfl ?_
    refine aw_irem X dX5_tideAt_66 (by decide) ?_
    refine aw_top (10) (by rw [show (12 : Int32) = nI 12 from rfl, pk_rem hb (by decide) (by decide), e10]; rfl) ?_
    refine aw_bipush X (6) dX5_tideAt_67 rfl ?_
    refine aw_icmp_ge_t (tgt := 76) X dX5_tideAt_69 (by decide) (by decide) ?_
    refine aw_iload_n X dX5_tideAt_76 rfl ?_
    refine aw_ineg X dX5_tideAt_77 ?_
    refine aw_aload_n X dX5_tideAt_78 rfl ?_
    refine aw_fgetA X hM 0 (t := 0) (b := 0) (n := 80) rfl f_X5_7 dX5_tideAt_79 ?_
    refine aw_iconst X (1) dX5_tideAt_82 rfl ?_
    refine aw_fiald X hM 0 (b := 0) (n := 80) rfl 1 (xin_d rfl) (by decide) dX5_tideAt_83 ?_
    refine aw_imul X dX5_tideAt_84 ?_
    refine aw_bipush X (10) dX5_tideAt_85 rfl ?_
    refine aw_idiv X dX5_tideAt_87 (by decide) ?_
    exact aw_iret X hQ dX5_tideAt_88 ⟨congrArg (fun q => some (Value.int q)) (by rw [cTide_nI hb, e10]; rfl), rfl⟩
  by_cases e11 : hn % 12 = 11
  · refine aw_top (5) (by rw [show (6 : Int32) = nI 6 from rfl, pk_rem hb (by decide) (by decide), show hn % 6 = 5 by omega]; rfl) ?_
    refine aw_tableV (tgt := 49) X (5) rfl dX5_tideAt_6 (by decide) (by decide) rfl (by decide) ?_
    refine aw_iconst X (5) dX5_tideAt_49 rfl ?_
    refine aw_istore_n X dX5_tideAt_50 rfl (by decide) ?_
    refine aw_goto (tgt := 63) X dX5_tideAt_51 (by decide) ?_
    refine aw_iload_n X dX5_tideAt_63 rfl ?_
    refine aw_bipush X (12) dX5_tideAt_64 rfl ?_
    refine aw_irem X dX5_tideAt_66 (by decide) ?_
    refine aw_top (11) (by rw [show (12 : Int32) = nI 12 from rfl, pk_rem hb (by decide) (by decide), e11]; rfl) ?_
    refine aw_bipush X (6) dX5_tideAt_67 rfl ?_
    refine aw_icmp_ge_t (tgt := 76) X dX5_tideAt_69 (by decide) (by decide) ?_
    refine aw_iload_n X dX5_tideAt_76 rfl ?_
    refine aw_ineg X dX5_tideAt_77 ?_
    refine aw_aload_n X dX5_tideAt_78 rfl ?_
    refine aw_fgetA X hM 0 (t := 0) (b := 0) (n := 80) rfl f_X5_7 dX5_tideAt_79 ?_
    refine aw_iconst X (1) dX5_tideAt_82 rfl ?_
    refine aw_fiald X hM 0 (b := 0) (n := 80) rfl 1 (xin_d rfl) (by decide) dX5_tideAt_83 ?_
    refine aw_imul X dX5_tideAt_84 ?_
    refine aw_bipush X (10) dX5_tideAt_85 rfl ?_
    refine aw_idiv X dX5_tideAt_87 (by decide) ?_
    exact aw_iret X hQ dX5_tideAt_88 ⟨congrArg (fun q => some (Value.int q)) (by rw [cTide_nI hb, e11]; rfl), rfl⟩
  exact absurd h12 (by omega)

set_option maxHeartbeats 4000000 in
set_option maxRecDepth 100000 in
theorem c_X5_tideNow (l : Launch) (U : xU) (μ0 : xH) (ma : Nat → Nat) (m : xV) (hM0 : FRep U μ0 ma 5 FM m) (hn : Nat) (h6 : m 6 = nI hn) (hb : hn < 2 ^ 31) : CtF l U yX5_tideNow cX5_tideNow 1 (some .int) ({ frames := 1, cells := 0, slots := 0, locals := 22 } : Room) [.ref (ma 0)] μ0 (cTide m (m 6)) := by
  refine Ct.of [some (.ref (ma 0))] (by decide +kernel) rfl (Nat.le_of_ble_eq_true rfl) (fun K Q X hnm hQ => ?_)
  have hM := FR.rf hM0
  refine aw_aload_n X dX5_tideNow_0 rfl ?_
  refine aw_aload_n X dX5_tideNow_1 rfl ?_
  refine aw_fgetA X hM 0 (t := 0) (b := 0) (n := 80) rfl f_X5_7 dX5_tideNow_2 ?_
  refine aw_bipush X (6) dX5_tideNow_5 rfl ?_
  refine aw_fiald X hM 0 (b := 0) (n := 80) rfl 6 (xin_d rfl) (by decide) dX5_tideNow_7 ?_
  refine aw_cVFF (As := [.int _]) X hM (c_X5_tideAt (kl K) U _ ma _ hM.1 _ (hn) h6 (by omega)) s_X5_41 k_X5_tideAt (by decide) ⟨rfl, rfl⟩ ⟨Nat.zero_le _, Nat.zero_le _⟩ rfl (by exact Nat.le_of_ble_eq_true rfl) rfl dX5_tideNow_8 ?_
  exact aw_iret X hQ dX5_tideNow_11 ⟨rfl, rfl⟩

set_option maxHeartbeats 4000000 in
set_option maxRecDepth 100000 in
theorem c_X5_ofTanker (l : Launch) (U : xU) (μ0 : xH) (ma : Nat → Nat) (m : xV) (hM0 : FRep U μ0 ma 5 FM m) (p w : Int32) (pn wn : Nat) (hp : p = nI pn) (hw : w = nI wn) (hpn : pn < 6) (hwn : wn < 5) : CtF l U yX5_ofTanker cX5_ofTanker 3 (some .int) ({ frames := 0, cells := 0, slots := 0, locals := 0 } : Room) [.ref (ma 0), .int p, .int w] μ0 (m (tz pn wn)) := by
  refine Ct.of [some (.ref (ma 0)), some (.int p), some (.int w)] (by decide +kernel) rfl (Nat.le_of_ble_eq_true rfl) (fun K Q X hnm hQ => ?_)
  have hM := FR.rf hM0
  refine aw_aload_n X dX5_ofTanker_0 rfl ?_
  refine aw_fgetA X hM 0 (t := 0) (b := 0) (n := 80) rfl f_X5_7 dX5_ofTanker_1 ?_
  refine aw_bipush X (50) dX5_ofTanker_4 rfl ?_
  refine aw_iconst X (5) dX5_ofTanker_6 rfl ?_
  refine aw_iload_n X dX5_ofTanker_7 rfl ?_
  refine aw_imul X dX5_ofTanker_8 ?_
  refine aw_iadd X dX5_ofTanker_9 ?_
  refine aw_iload_n X dX5_ofTanker_10 rfl ?_
  refine aw_iadd X dX5_ofTanker_11 ?_
  refine aw_top (nI (tz pn wn)) (by rw [hp, hw]; exact ix_tz _ _) ?_
  refine aw_fiald X hM 0 (b := 0) (n := 80) rfl (tz pn wn) (vp_in_nI (by simp only [tz]; omega) (by decide)) (by rw [nI_clamp (by simp only [tz]; omega), Nat.zero_add]) dX5_ofTanker_12 ?_
  exact aw_iret X hQ dX5_ofTanker_13 ⟨rfl, rfl⟩

set_option maxHeartbeats 4000000 in
set_option maxRecDepth 100000 in
theorem c_X5_setTanker (l : Launch) (U : xU) (μ0 : xH) (ma : Nat → Nat) (m : xV) (hM0 : FRep U μ0 ma 5 FM m) (p w v : Int32) (pn wn : Nat) (hp : p = nI pn) (hw : w = nI wn) (hpn : pn < 6) (hwn : wn < 5) : CtFK l U yX5_setTanker cX5_setTanker 4 none ({ frames := 0, cells := 0, slots := 0, locals := 0 } : Room) [.ref (ma 0), .int p, .int w, .int v] μ0 ma 5 FM (upd m (tz pn wn) v) := by
  refine Ct.of [some (.ref (ma 0)), some (.int p), some (.int w), some (.int v)] (by decide +kernel) rfl (Nat.le_of_ble_eq_true rfl) (fun K Q X hnm hQ => ?_)
  have hM := FR.rf hM0
  refine aw_aload_n X dX5_setTanker_0 rfl ?_
  refine aw_fgetA X hM 0 (t := 0) (b := 0) (n := 80) rfl f_X5_7 dX5_setTanker_1 ?_
  refine aw_bipush X (50) dX5_setTanker_4 rfl ?_
  refine aw_iconst X (5) dX5_setTanker_6 rfl ?_
  refine aw_iload_n X dX5_setTanker_7 rfl ?_
  refine aw_imul X dX5_setTanker_8 ?_
  refine aw_iadd X dX5_setTanker_9 ?_
  refine aw_iload_n X dX5_setTanker_10 rfl ?_
  refine aw_iadd X dX5_setTanker_11 ?_
  refine aw_top (nI (tz pn wn)) (by rw [hp, hw]; exact ix_tz _ _) ?_
  refine aw_iload_n X dX5_setTanker_12 rfl ?_
  refine aw_fiast X FM_a hM 0 (b := 0) (n := 80) rfl (tz pn wn) (vp_in_nI (by simp only [tz]; omega) (by decide)) (by rw [nI_clamp (by simp only [tz]; omega), Nat.zero_add]) dX5_setTanker_13 (fun μ z_1 ez_1 hM => ?_)
  exact aw_vret X hQ dX5_setTanker_14 ⟨rfl, hM.to (by subst ez_1; simp [])⟩

set_option maxHeartbeats 4000000 in
set_option maxRecDepth 100000 in
theorem c_X5_hoseOf (l : Launch) (U : xU) (μ0 : xH) (ma : Nat → Nat) (m : xV) (hM0 : FRep U μ0 ma 5 FM m) (p w : Int32) (pn wn : Nat) (hp : p = nI pn) (hw : w = nI wn) (hpn : pn < 4) (hwn : wn < 6) : CtF l U yX5_hoseOf cX5_hoseOf 3 (some .int) ({ frames := 0, cells := 0, slots := 0, locals := 0 } : Room) [.ref (ma 0), .int p, .int w] μ0 (m (hz pn wn)) := by
  refine Ct.of [some (.ref (ma 0)), some (.int p), some (.int w)] (by decide +kernel) rfl (Nat.le_of_ble_eq_true rfl) (fun K Q X hnm hQ => ?_)
  have hM := FR.rf hM0
  refine aw_aload_n X dX5_hoseOf_0 rfl ?_
  refine aw_fgetA X hM 0 (t := 0) (b := 0) (n := 80) rfl f_X5_7 dX5_hoseOf_1 ?_
  refine aw_bipush X (26) dX5_hoseOf_4 rfl ?_
  refine aw_bipush X (6) dX5_hoseOf_6 rfl ?_
  refine aw_iload_n X dX5_hoseOf_8 rfl ?_
  refine aw_imul X dX5_hoseOf_9 ?_
  refine aw_iadd X dX5_hoseOf_10 ?_
  refine aw_iload_n X dX5_hoseOf_11 rfl ?_
  refine aw_iadd X dX5_hoseOf_12 ?_
  refine aw_top (nI (hz pn wn)) (by rw [hp, hw]; exact ix_hz _ _) ?_
  refine aw_fiald X hM 0 (b := 0) (n := 80) rfl (hz pn wn) (vp_in_nI (by simp only [hz]; omega) (by decide)) (by rw [nI_clamp (by simp only [hz]; omega), Nat.zero_add]) dX5_hoseOf_13 ?_
  exact aw_iret X hQ dX5_hoseOf_14 ⟨rfl, rfl⟩

set_option maxHeartbeats 4000000 in
set_option maxRecDepth 100000 in
theorem c_X5_setHose (l : Launch) (U : xU) (μ0 : xH) (ma : Nat → Nat) (m : xV) (hM0 : FRep U μ0 ma 5 FM m) (p w v : Int32) (pn wn : Nat) (hp : p = nI pn) (hw : w = nI wn) (hpn : pn < 4) (hwn : wn < 6) : CtFK l U yX5_setHose cX5_setHose 4 none ({ frames := 0, cells := 0, slots := 0, locals := 0 } : Room) [.ref (ma 0), .int p, .int w, .int v] μ0 ma 5 FM (upd m (hz pn wn) v) := by
  refine Ct.of [some (.ref (ma 0)), some (.int p), some (.int w), some (.int v)] (by decide +kernel) rfl (Nat.le_of_ble_eq_true rfl) (fun K Q X hnm hQ => ?_)
  have hM := FR.rf hM0
  refine aw_aload_n X dX5_setHose_0 rfl ?_
  refine aw_fgetA X hM 0 (t := 0) (b := 0) (n := 80) rfl f_X5_7 dX5_setHose_1 ?_
  refine aw_bipush X (26) dX5_setHose_4 rfl ?_
  refine aw_bipush X (6) dX5_setHose_6 rfl ?_
  refine aw_iload_n X dX5_setHose_8 rfl ?_
  refine aw_imul X dX5_setHose_9 ?_
  refine aw_iadd X dX5_setHose_10 ?_
  refine aw_iload_n X dX5_setHose_11 rfl ?_
  refine aw_iadd X dX5_setHose_12 ?_
  refine aw_top (nI (hz pn wn)) (by rw [hp, hw]; exact ix_hz _ _) ?_
  refine aw_iload_n X dX5_setHose_13 rfl ?_
  refine aw_fiast X FM_a hM 0 (b := 0) (n := 80) rfl (hz pn wn) (vp_in_nI (by simp only [hz]; omega) (by decide)) (by rw [nI_clamp (by simp only [hz]; omega), Nat.zero_add]) dX5_setHose_14 (fun μ z_1 ez_1 hM => ?_)
  exact aw_vret X hQ dX5_setHose_15 ⟨rfl, hM.to (by subst ez_1; simp [])⟩

set_option maxHeartbeats 4000000 in
set_option maxRecDepth 100000 in
theorem c_X5_unitsOf (l : Launch) (U : xU) (μ0 : xH) (ma : Nat → Nat) (m : xV) (hM0 : FRep U μ0 ma 5 FM m) (p : Int32) (pn : Nat) (hp : p = nI pn) (hpn : pn < 6) : CtF l U yX5_unitsOf cX5_unitsOf 4 (some .int) ({ frames := 1, cells := 0, slots := 0, locals := 22 } : Room) [.ref (ma 0), .int p] μ0 (cUnits m pn) := by
  refine Ct.of [some (.ref (ma 0)), some (.int p), none, none] (by decide +kernel) rfl (Nat.le_of_ble_eq_true rfl) (fun K Q X hnm hQ => ?_)
  have hM := FR.rf hM0
  refine aw_iconst X (0) dX5_unitsOf_0 rfl ?_
  refine aw_istore_n X dX5_unitsOf_1 rfl (by decide) ?_
  refine aw_iconst X (0) dX5_unitsOf_2 rfl ?_
  refine aw_istore_n X dX5_unitsOf_3 rfl (by decide) ?_
  refine aw_iload_n X dX5_unitsOf_4 rfl ?_
  refine aw_iconst X (4) dX5_unitsOf_5 rfl ?_
  refine aw_icmp_ge_f (tgt := 24) X dX5_unitsOf_6 (by decide) (by decide) ?_
  refine aw_iload_n X dX5_unitsOf_9 rfl ?_
  refine aw_aload_n X dX5_unitsOf_10 rfl ?_
  refine aw_iload_n X dX5_unitsOf_11 rfl ?_
  refine aw_iload_n X dX5_unitsOf_12 rfl ?_
  refine aw_cVFF (As := [.int _, .int _]) X hM (c_X5_ofTanker (kl K) U _ ma _ hM.1 _ _ pn 0 hp rfl (by omega) (by decide)) s_X5_45 k_X5_ofTanker (by decide) ⟨rfl, rfl⟩ ⟨Nat.zero_le _, Nat.zero_le _⟩ rfl (by exact Nat.le_of_ble_eq_true rfl) rfl dX5_unitsOf_13 ?_
  refine aw_iadd X dX5_unitsOf_16 ?_
  refine aw_istore_n X dX5_unitsOf_17 rfl (by decide) ?_
  refine aw_iinc X (1) dX5_unitsOf_18 rfl rfl rfl (by decide) ?_
  refine aw_goto (tgt := 4) X dX5_unitsOf_21 (by decide) ?_
  refine aw_iload_n X dX5_unitsOf_4 rfl ?_
  refine aw_iconst X (4) dX5_unitsOf_5 rfl ?_
  refine aw_icmp_ge_f (tgt := 24) X dX5_unitsOf_6 (by decide) (by decide) ?_
  refine aw_iload_n X dX5_unitsOf_9 rfl ?_
  refine aw_aload_n X dX5_unitsOf_10 rfl ?_
  refine aw_iload_n X dX5_unitsOf_11 rfl ?_
  refine aw_iload_n X dX5_unitsOf_12 rfl ?_
  refine aw_cVFF (As := [.int _, .int _]) X hM (c_X5_ofTanker (kl K) U _ ma _ hM.1 _ _ pn 1 hp rfl (by omega) (by decide)) s_X5_45 k_X5_ofTanker (by decide) ⟨rfl, rfl⟩ ⟨Nat.zero_le _, Nat.zero_le _⟩ rfl (by exact Nat.le_of_ble_eq_true rfl) rfl dX5_unitsOf_13 ?_
  refine aw_iadd X dX5_unitsOf_16 ?_
  refine aw_istore_n X dX5_unitsOf_17 rfl (by decide) ?_
  refine aw_iinc X (1) dX5_unitsOf_18 rfl rfl rfl (by decide) ?_
  refine aw_goto (tgt := 4) X dX5_unitsOf_21 (by decide) ?_
  refine aw_iload_n X dX5_unitsOf_4 rfl ?_
  refine aw_iconst X (4) dX5_unitsOf_5 rfl ?_
  refine aw_icmp_ge_f (tgt := 24) X dX5_unitsOf_6 (by decide) (by decide) ?_
  refine aw_iload_n X dX5_unitsOf_9 rfl ?_
  refine aw_aload_n X dX5_unitsOf_10 rfl ?_
  refine aw_iload_n X dX5_unitsOf_11 rfl ?_
  refine aw_iload_n X dX5_unitsOf_12 rfl ?_
  refine aw_cVFF (As := [.int _, .int _]) X hM (c_X5_ofTanker (kl K) U _ ma _ hM.1 _ _ pn 2 hp rfl (by omega) (by decide)) s_X5_45 k_X5_ofTanker (by decide) ⟨rfl, rfl⟩ ⟨Nat.zero_le _, Nat.zero_le _⟩ rfl (by exact Nat.le_of_ble_eq_true rfl) rfl dX5_unitsOf_13 ?_
  refine aw_iadd X dX5_unitsOf_16 ?_
  refine aw_istore_n X dX5_unitsOf_17 rfl (by decide) ?_
  refine aw_iinc X (1) dX5_unitsOf_18 rfl rfl rfl (by decide) ?_
  refine aw_goto (tgt := 4) X dX5_unitsOf_21 (by decide) ?_
  refine aw_iload_n X dX5_unitsOf_4 rfl ?_
  refine aw_iconst X (4) dX5_unitsOf_5 rfl ?_
  refine aw_icmp_ge_f (tgt := 24) X dX5_unitsOf_6 (by decide) (by decide) ?_
  refine aw_iload_n X dX5_unitsOf_9 rfl ?_
  refine aw_aload_n X dX5_unitsOf_10 rfl ?_
  refine aw_iload_n X dX5_unitsOf_11 rfl ?_
  refine aw_iload_n X dX5_unitsOf_12 rfl ?_
  refine aw_cVFF (As := [.int _, .int _]) X hM (c_X5_ofTanker (kl K) U _ ma _ hM.1 _ _ pn 3 hp rfl (by omega) (by decide)) s_X5_45 k_X5_ofTanker (by decide) ⟨rfl, rfl⟩ ⟨Nat.zero_le _, Nat.zero_le _⟩ rfl (by exact Nat.le_of_ble_eq_true rfl) rfl dX5_unitsOf_13 ?_
  refine aw_iadd X dX5_unitsOf_16 ?_
  refine aw_istore_n X dX5_unitsOf_17 rfl (by decide) ?_
  refine aw_iinc X (1) dX5_unitsOf_18 rfl rfl rfl (by decide) ?_
  refine aw_goto (tgt := 4) X dX5_unitsOf_21 (by decide) ?_
  refine aw_iload_n X dX5_unitsOf_4 rfl ?_
  refine aw_iconst X (4) dX5_unitsOf_5 rfl ?_
  refine aw_icmp_ge_t (tgt := 24) X dX5_unitsOf_6 (by decide) (by decide) ?_
  refine aw_iload_n X dX5_unitsOf_24 rfl ?_
  exact aw_iret X hQ dX5_unitsOf_25 ⟨rfl, rfl⟩

set_option maxHeartbeats 4000000 in
set_option maxRecDepth 100000 in
theorem c_X5_draughtOf (l : Launch) (U : xU) (μ0 : xH) (ma : Nat → Nat) (m : xV) (hM0 : FRep U μ0 ma 5 FM m) (p : Int32) (pn : Nat) (hp : p = nI pn) (hpn : pn < 6) : CtF l U yX5_draughtOf cX5_draughtOf 2 (some .int) ({ frames := 2, cells := 0, slots := 0, locals := 45 } : Room) [.ref (ma 0), .int p] μ0 (cDraught m pn) := by
  refine Ct.of [some (.ref (ma 0)), some (.int p)] (by decide +kernel) rfl (Nat.le_of_ble_eq_true rfl) (fun K Q X hnm hQ => ?_)
  have hM := FR.rf hM0
  refine aw_bipush X (40) dX5_draughtOf_0 rfl ?_
  refine aw_aload_n X dX5_draughtOf_2 rfl ?_
  refine aw_iload_n X dX5_draughtOf_3 rfl ?_
  refine aw_cVFF (As := [.int _]) X hM (c_X5_unitsOf (kl K) U _ ma _ hM.1 _ pn hp (by omega)) s_X5_49 k_X5_unitsOf (by decide) ⟨rfl, rfl⟩ ⟨Nat.zero_le _, Nat.zero_le _⟩ rfl (by exact Nat.le_of_ble_eq_true rfl) rfl dX5_draughtOf_4 ?_
  refine aw_bipush X (20) dX5_draughtOf_7 rfl ?_
  refine aw_idiv X dX5_draughtOf_9 (by decide) ?_
  refine aw_iadd X dX5_draughtOf_10 ?_
  exact aw_iret X hQ dX5_draughtOf_11 ⟨rfl, rfl⟩

set_option maxHeartbeats 4000000 in
set_option maxRecDepth 100000 in
theorem c_X5_heightOf (l : Launch) (U : xU) (μ0 : xH) (ma : Nat → Nat) (m : xV) (hM0 : FRep U μ0 ma 5 FM m) (p : Int32) (pn : Nat) (hp : p = nI pn) (hpn : pn < 6) (hn : Nat) (h6 : m 6 = nI hn) (hb : hn < 2 ^ 31) : CtF l U yX5_heightOf cX5_heightOf 2 (some .int) ({ frames := 3, cells := 0, slots := 0, locals := 66 } : Room) [.ref (ma 0), .int p] μ0 (cHeight m (cDraught m pn) (m 6)) := by
  refine Ct.of [some (.ref (ma 0)), some (.int p)] (by decide +kernel) rfl (Nat.le_of_ble_eq_true rfl) (fun K Q X hnm hQ => ?_)
  have hM := FR.rf hM0
  refine aw_bipush X (100) dX5_heightOf_0 rfl ?_
  refine aw_aload_n X dX5_heightOf_2 rfl ?_
  refine aw_cVFF (As := []) X hM (c_X5_tideNow (kl K) U _ ma _ hM.1 _ h6 (by omega)) s_X5_52 k_X5_tideNow (by decide) ⟨rfl, rfl⟩ ⟨Nat.zero_le _, Nat.zero_le _⟩ rfl (by exact Nat.le_of_ble_eq_true rfl) rfl dX5_heightOf_3 ?_
  refine aw_iadd X dX5_heightOf_6 ?_
  refine aw_aload_n X dX5_heightOf_7 rfl ?_
  refine aw_iload_n X dX5_heightOf_8 rfl ?_
  refine aw_cVFF (As := [.int _]) X hM (c_X5_draughtOf (kl K) U _ ma _ hM.1 _ pn hp (by omega)) s_X5_56 k_X5_draughtOf (by decide) ⟨rfl, rfl⟩ ⟨Nat.zero_le _, Nat.zero_le _⟩ rfl (by exact Nat.le_of_ble_eq_true rfl) rfl dX5_heightOf_9 ?_
  refine aw_isub X dX5_heightOf_12 ?_
  exact aw_iret X hQ dX5_heightOf_13 ⟨rfl, rfl⟩

set_option maxHeartbeats 4000000 in
set_option maxRecDepth 100000 in
theorem c_X5_floats (l : Launch) (U : xU) (μ0 : xH) (ma : Nat → Nat) (m : xV) (hM0 : FRep U μ0 ma 5 FM m) (p : Int32) (pn : Nat) (hp : p = nI pn) (hpn : pn < 6) (h : Int32) (hn : Nat) (hh : h = nI hn) (hb : hn < 2 ^ 31) : CtF l U yX5_floats cX5_floats 3 (some .boolean) ({ frames := 3, cells := 0, slots := 0, locals := 66 } : Room) [.ref (ma 0), .int p, .int h] μ0 (bI (cFloats m (cDraught m pn) h)) := by
  refine Ct.of [some (.ref (ma 0)), some (.int p), some (.int h)] (by decide +kernel) rfl (Nat.le_of_ble_eq_true rfl) (fun K Q X hnm hQ => ?_)
  have hM := FR.rf hM0
  refine aw_aload_n X dX5_floats_0 rfl ?_
  refine aw_fgetA X hM 0 (t := 0) (b := 0) (n := 80) rfl f_X5_7 dX5_floats_1 ?_
  refine aw_iconst X (0) dX5_floats_4 rfl ?_
  refine aw_fiald X hM 0 (b := 0) (n := 80) rfl 0 (xin_d rfl) (by decide) dX5_floats_5 ?_
  refine aw_aload_n X dX5_floats_6 rfl ?_
  refine aw_iload_n X dX5_floats_7 rfl ?_
  refine aw_cVFF (As := [.int _]) X hM (c_X5_tideAt (kl K) U _ ma _ hM.1 _ (hn) hh (by omega)) s_X5_41 k_X5_tideAt (by decide) ⟨rfl, rfl⟩ ⟨Nat.zero_le _, Nat.zero_le _⟩ rfl (by exact Nat.le_of_ble_eq_true rfl) rfl dX5_floats_8 ?_
  refine aw_iadd X dX5_floats_11 ?_
  refine aw_aload_n X dX5_floats_12 rfl ?_
  refine aw_iload_n X dX5_floats_13 rfl ?_
  refine aw_cVFF (As := [.int _]) X hM (c_X5_draughtOf (kl K) U _ ma _ hM.1 _ pn hp (by omega)) s_X5_56 k_X5_draughtOf (by decide) ⟨rfl, rfl⟩ ⟨Nat.zero_le _, Nat.zero_le _⟩ rfl (by exact Nat.le_of_ble_eq_true rfl) rfl dX5_floats_14 ?_
  refine aw_aload_n X dX5_floats_17 rfl ?_
  refine aw_fgetA X hM 0 (t := 0) (b := 0) (n := 80) rfl f_X5_7 dX5_floats_18 ?_
  refine aw_iconst X (2) dX5_floats_21 rfl ?_
  refine aw_fiald X hM 0 (b := 0) (n := 80) rfl 2 (xin_d rfl) (by decide) dX5_floats_22 ?_
  refine aw_iadd X dX5_floats_23 ?_
  refine aw_icmp_lt (tgt := 31) X dX5_floats_24 (by decide) (fun c24_1 => ?_) (fun c24_1 => ?_)
  · skip
    refine aw_iconst X (0) dX5_floats_31 rfl ?_
    exact aw_zret X rfl hQ dX5_floats_32 ⟨congrArg (fun q => some (Value.int q)) (by simp [cFloats, bI, c24_1, Int32.not_le.mpr c24_1]), rfl⟩
  · skip
    refine aw_iconst X (1) dX5_floats_27 rfl ?_
    refine aw_goto (tgt := 32) X dX5_floats_28 (by decide) ?_
    exact aw_zret X rfl hQ dX5_floats_32 ⟨congrArg (fun q => some (Value.int q)) (by simp [cFloats, bI, c24_1, Int32.not_lt.mp c24_1]), rfl⟩

set_option maxHeartbeats 4000000 in
set_option maxRecDepth 100000 in
theorem c_X5_isTanker (l : Launch) (U : xU) (μ0 : xH) (ma : Nat → Nat) (m : xV) (hM0 : FRep U μ0 ma 5 FM m) (p : Int32) : CtF l U yX5_isTanker cX5_isTanker 2 (some .boolean) ({ frames := 1, cells := 0, slots := 0, locals := 22 } : Room) [.ref (ma 0), .int p] μ0 (bI (mIsT m p)) := by
  refine Ct.of [some (.ref (ma 0)), some (.int p)] (by decide +kernel) rfl (Nat.le_of_ble_eq_true rfl) (fun K Q X hnm hQ => ?_)
  have hM := FR.rf hM0
  refine aw_iload_n X dX5_isTanker_0 rfl ?_
  refine aw_if_ne (tgt := 23) X dX5_isTanker_1 (by decide) (fun c1_1 => ?_) (fun c1_1 => ?_)
  · skip
    refine aw_iload_n X dX5_isTanker_23 rfl ?_
    refine aw_iconst X (1) dX5_isTanker_24 rfl ?_
    refine aw_aload_n X dX5_isTanker_25 rfl ?_
    refine aw_fgetA X hM 0 (t := 0) (b := 0) (n := 80) rfl f_X5_7 dX5_isTanker_26 ?_
    refine aw_bipush X (12) dX5_isTanker_29 rfl ?_
    refine aw_fiald X hM 0 (b := 0) (n := 80) rfl 12 (xin_d rfl) (by decide) dX5_isTanker_31 ?_
    refine aw_cSF (As := [.int _, .int _, .int _]) X (c_X5_in (kl K) U _ _ _ _) s_X5_59 k_X5_in (by decide) ⟨rfl, rfl⟩ ⟨Nat.zero_le _, Nat.zero_le _⟩ rfl (by exact Nat.le_of_ble_eq_true rfl) dX5_isTanker_32 ?_
    exact aw_zret X (bI_nar _) hQ dX5_isTanker_35 ⟨congrArg (fun q => some (Value.int q)) (by simp [mIsT, bI, c1_1]), rfl⟩
  · skip
    refine aw_aload_n X dX5_isTanker_4 rfl ?_
    refine aw_fgetA X hM 0 (t := 0) (b := 0) (n := 80) rfl f_X5_7 dX5_isTanker_5 ?_
    refine aw_bipush X (13) dX5_isTanker_8 rfl ?_
    refine aw_fiald X hM 0 (b := 0) (n := 80) rfl 13 (xin_d rfl) (by decide) dX5_isTanker_10 ?_
    refine aw_iconst X (1) dX5_isTanker_11 rfl ?_
    refine aw_icmp_ne (tgt := 19) X dX5_isTanker_12 (by decide) (fun c12_2 => ?_) (fun c12_2 => ?_)
    · skip
      refine aw_iconst X (0) dX5_isTanker_19 rfl ?_
      refine aw_goto (tgt := 35) X dX5_isTanker_20 (by decide) ?_
      exact aw_zret X rfl hQ dX5_isTanker_35 ⟨congrArg (fun q => some (Value.int q)) (by simp [mIsT, bI, c1_1, c12_2]), rfl⟩
    · skip
      refine aw_iconst X (1) dX5_isTanker_15 rfl ?_
      refine aw_goto (tgt := 35) X dX5_isTanker_16 (by decide) ?_
      exact aw_zret X rfl hQ dX5_isTanker_35 ⟨congrArg (fun q => some (Value.int q)) (by simp [mIsT, bI, c1_1, c12_2]), rfl⟩

set_option maxHeartbeats 4000000 in
set_option maxRecDepth 100000 in
theorem c_X5_isConnected (l : Launch) (U : xU) (μ0 : xH) (ma : Nat → Nat) (m : xV) (hM0 : FRep U μ0 ma 5 FM m) (p : Int32) (pn : Nat) (hp : p = nI pn) (hpn : pn < 4) (hg : gv (m (hz pn 2))) : CtF l U yX5_isConnected cX5_isConnected 2 (some .boolean) ({ frames := 1, cells := 0, slots := 0, locals := 22 } : Room) [.ref (ma 0), .int p] μ0 (bI (isG (m (hz pn 2)))) := by
  refine Ct.of [some (.ref (ma 0)), some (.int p)] (by decide +kernel) rfl (Nat.le_of_ble_eq_true rfl) (fun K Q X hnm hQ => ?_)
  have hM := FR.rf hM0
  refine aw_aload_n X dX5_isConnected_0 rfl ?_
  refine aw_iload_n X dX5_isConnected_1 rfl ?_
  refine aw_iconst X (2) dX5_isConnected_2 rfl ?_
  refine aw_cVFF (As := [.int _, .int _]) X hM (c_X5_hoseOf (kl K) U _ ma _ hM.1 _ _ pn 2 hp rfl (by omega) (by decide)) s_X5_63 k_X5_hoseOf (by decide) ⟨rfl, rfl⟩ ⟨Nat.zero_le _, Nat.zero_le _⟩ rfl (by exact Nat.le_of_ble_eq_true rfl) rfl dX5_isConnected_3 ?_
  refine aw_if_lt (tgt := 13) X dX5_isConnected_6 (by decide) (fun c6_1 => ?_) (fun c6_1 => ?_)
  · skip
    refine aw_iconst X (0) dX5_isConnected_13 rfl ?_
    exact aw_zret X rfl hQ dX5_isConnected_14 ⟨congrArg (fun q => some (Value.int q)) (by rw [← gv_0 hg]; simp [bI, c6_1, Int32.not_le.mpr c6_1]), rfl⟩
  · skip
    refine aw_iconst X (1) dX5_isConnected_9 rfl ?_
    refine aw_goto (tgt := 14) X dX5_isConnected_10 (by decide) ?_
    exact aw_zret X rfl hQ dX5_isConnected_14 ⟨congrArg (fun q => some (Value.int q)) (by rw [← gv_0 hg]; simp [bI, c6_1, Int32.not_lt.mp c6_1]), rfl⟩

set_option maxHeartbeats 4000000 in
set_option maxRecDepth 100000 in
theorem c_X5_connected (l : Launch) (U : xU) (μ0 : xH) (ma : Nat → Nat) (m : xV) (hM0 : FRep U μ0 ma 5 FM m) (hgv : ∀ i, i < 4 → gv (m (hz i 2))) : CtF l U yX5_connected cX5_connected 3 (some .int) ({ frames := 2, cells := 0, slots := 0, locals := 43 } : Room) [.ref (ma 0)] μ0 (cConnN m) := by
  refine Ct.of [some (.ref (ma 0)), none, none] (by decide +kernel) rfl (Nat.le_of_ble_eq_true rfl) (fun K Q X hnm hQ => ?_)
  have hM := FR.rf hM0
  refine aw_iconst X (0) dX5_connected_0 rfl ?_
  refine aw_istore_n X dX5_connected_1 rfl (by decide) ?_
  refine aw_iconst X (0) dX5_connected_2 rfl ?_
  refine aw_istore_n X dX5_connected_3 rfl (by decide) ?_
  refine aw_iload_n X dX5_connected_4 rfl ?_
  refine aw_iconst X (4) dX5_connected_5 rfl ?_
  refine aw_icmp_ge_f (tgt := 31) X dX5_connected_6 (by decide) (by decide) ?_
  refine aw_iload_n X dX5_connected_9 rfl ?_
  refine aw_aload_n X dX5_connected_10 rfl ?_
  refine aw_iload_n X dX5_connected_11 rfl ?_
  refine aw_cVFF (As := [.int _]) X hM (c_X5_isConnected (kl K) U _ ma _ hM.1 _ 0 rfl (by decide) (hgv _ (by decide))) s_X5_66 k_X5_isConnected (by decide) ⟨rfl, rfl⟩ ⟨Nat.zero_le _, Nat.zero_le _⟩ rfl (by exact Nat.le_of_ble_eq_true rfl) rfl dX5_connected_12 ?_
  refine aw_bj (tgt := 22) (t2 := 23) X dX5_connected_15 dX5_connected_18 dX5_connected_19 dX5_connected_22 (by decide) (by decide) rfl ?_
  rw [bI_ne]
  refine aw_iadd X dX5_connected_23 ?_
  refine aw_istore_n X dX5_connected_24 rfl (by decide) ?_
  refine aw_iinc X (1) dX5_connected_25 rfl rfl rfl (by decide) ?_
  refine aw_goto (tgt := 4) X dX5_connected_28 (by decide) ?_
  refine aw_iload_n X dX5_connected_4 rfl ?_
  refine aw_iconst X (4) dX5_connected_5 rfl ?_
  refine aw_icmp_ge_f (tgt := 31) X dX5_connected_6 (by decide) (by decide) ?_
  refine aw_iload_n X dX5_connected_9 rfl ?_
  refine aw_aload_n X dX5_connected_10 rfl ?_
  refine aw_iload_n X dX5_connected_11 rfl ?_
  refine aw_cVFF (As := [.int _]) X hM (c_X5_isConnected (kl K) U _ ma _ hM.1 _ 1 rfl (by decide) (hgv _ (by decide))) s_X5_66 k_X5_isConnected (by decide) ⟨rfl, rfl⟩ ⟨Nat.zero_le _, Nat.zero_le _⟩ rfl (by exact Nat.le_of_ble_eq_true rfl) rfl dX5_connected_12 ?_
  refine aw_bj (tgt := 22) (t2 := 23) X dX5_connected_15 dX5_connected_18 dX5_connected_19 dX5_connected_22 (by decide) (by decide) rfl ?_
  rw [bI_ne]
  refine aw_iadd X dX5_connected_23 ?_
  refine aw_istore_n X dX5_connected_24 rfl (by decide) ?_
  refine aw_iinc X (1) dX5_connected_25 rfl rfl rfl (by decide) ?_
  refine aw_goto (tgt := 4) X dX5_connected_28 (by decide) ?_
  refine aw_iload_n X dX5_connected_4 rfl ?_
  refine aw_iconst X (4) dX5_connected_5 rfl ?_
  refine aw_icmp_ge_f (tgt := 31) X dX5_connected_6 (by decide) (by decide) ?_
  refine aw_iload_n X dX5_connected_9 rfl ?_
  refine aw_aload_n X dX5_connected_10 rfl ?_
  refine aw_iload_n X dX5_connected_11 rfl ?_
  refine aw_cVFF (As := [.int _]) X hM (c_X5_isConnected (kl K) U _ ma _ hM.1 _ 2 rfl (by decide) (hgv _ (by decide))) s_X5_66 k_X5_isConnected (by decide) ⟨rfl, rfl⟩ ⟨Nat.zero_le _, Nat.zero_le _⟩ rfl (by exact Nat.le_of_ble_eq_true rfl) rfl dX5_connected_12 ?_
  refine aw_bj (tgt := 22) (t2 := 23) X dX5_connected_15 dX5_connected_18 dX5_connected_19 dX5_connected_22 (by decide) (by decide) rfl ?_
  rw [bI_ne]
  refine aw_iadd X dX5_connected_23 ?_
  refine aw_istore_n X dX5_connected_24 rfl (by decide) ?_
  refine aw_iinc X (1) dX5_connected_25 rfl rfl rfl (by decide) ?_
  refine aw_goto (tgt := 4) X dX5_connected_28 (by decide) ?_
  refine aw_iload_n X dX5_connected_4 rfl ?_
  refine aw_iconst X (4) dX5_connected_5 rfl ?_
  refine aw_icmp_ge_f (tgt := 31) X dX5_connected_6 (by decide) (by decide) ?_
  refine aw_iload_n X dX5_connected_9 rfl ?_
  refine aw_aload_n X dX5_connected_10 rfl ?_
  refine aw_iload_n X dX5_connected_11 rfl ?_
  refine aw_cVFF (As := [.int _]) X hM (c_X5_isConnected (kl K) U _ ma _ hM.1 _ 3 rfl (by decide) (hgv _ (by decide))) s_X5_66 k_X5_isConnected (by decide) ⟨rfl, rfl⟩ ⟨Nat.zero_le _, Nat.zero_le _⟩ rfl (by exact Nat.le_of_ble_eq_true rfl) rfl dX5_connected_12 ?_
  refine aw_bj (tgt := 22) (t2 := 23) X dX5_connected_15 dX5_connected_18 dX5_connected_19 dX5_connected_22 (by decide) (by decide) rfl ?_
  rw [bI_ne]
  refine aw_iadd X dX5_connected_23 ?_
  refine aw_istore_n X dX5_connected_24 rfl (by decide) ?_
  refine aw_iinc X (1) dX5_connected_25 rfl rfl rfl (by decide) ?_
  refine aw_goto (tgt := 4) X dX5_connected_28 (by decide) ?_
  refine aw_iload_n X dX5_connected_4 rfl ?_
  refine aw_iconst X (4) dX5_connected_5 rfl ?_
  refine aw_icmp_ge_t (tgt := 31) X dX5_connected_6 (by decide) (by decide) ?_
  refine aw_iload_n X dX5_connected_31 rfl ?_
  exact aw_iret X hQ dX5_connected_32 ⟨rfl, rfl⟩

set_option maxHeartbeats 4000000 in
set_option maxRecDepth 100000 in
theorem c_X5_burst (l : Launch) (U : xU) (μ0 : xH) (ma : Nat → Nat) (m : xV) (hM0 : FRep U μ0 ma 5 FM m) (hxz : ∀ i, i < 4 → xz (m (hz i 3))) : CtF l U yX5_burst cX5_burst 3 (some .int) ({ frames := 1, cells := 0, slots := 0, locals := 22 } : Room) [.ref (ma 0)] μ0 (cBurstN m) := by
  refine Ct.of [some (.ref (ma 0)), none, none] (by decide +kernel) rfl (Nat.le_of_ble_eq_true rfl) (fun K Q X hnm hQ => ?_)
  have hM := FR.rf hM0
  refine aw_iconst X (0) dX5_burst_0 rfl ?_
  refine aw_istore_n X dX5_burst_1 rfl (by decide) ?_
  refine aw_iconst X (0) dX5_burst_2 rfl ?_
  refine aw_istore_n X dX5_burst_3 rfl (by decide) ?_
  refine aw_iload_n X dX5_burst_4 rfl ?_
  refine aw_iconst X (4) dX5_burst_5 rfl ?_
  refine aw_icmp_ge_f (tgt := 24) X dX5_burst_6 (by decide) (by decide) ?_
  refine aw_iload_n X dX5_burst_9 rfl ?_
  refine aw_aload_n X dX5_burst_10 rfl ?_
  refine aw_iload_n X dX5_burst_11 rfl ?_
  refine aw_iconst X (3) dX5_burst_12 rfl ?_
  refine aw_cVFF (As := [.int _, .int _]) X hM (c_X5_hoseOf (kl K) U _ ma _ hM.1 _ _ 0 3 rfl rfl (by decide) (by decide)) s_X5_63 k_X5_hoseOf (by decide) ⟨rfl, rfl⟩ ⟨Nat.zero_le _, Nat.zero_le _⟩ rfl (by exact Nat.le_of_ble_eq_true rfl) rfl dX5_burst_13 ?_
  refine aw_iadd X dX5_burst_16 ?_
  refine aw_istore_n X dX5_burst_17 rfl (by decide) ?_
  refine aw_iinc X (1) dX5_burst_18 rfl rfl rfl (by decide) ?_
  refine aw_goto (tgt := 4) X dX5_burst_21 (by decide) ?_
  refine aw_iload_n X dX5_burst_4 rfl ?_
  refine aw_iconst X (4) dX5_burst_5 rfl ?_
  refine aw_icmp_ge_f (tgt := 24) X dX5_burst_6 (by decide) (by decide) ?_
  refine aw_iload_n X dX5_burst_9 rfl ?_
  refine aw_aload_n X dX5_burst_10 rfl ?_
  refine aw_iload_n X dX5_burst_11 rfl ?_
  refine aw_iconst X (3) dX5_burst_12 rfl ?_
  refine aw_cVFF (As := [.int _, .int _]) X hM (c_X5_hoseOf (kl K) U _ ma _ hM.1 _ _ 1 3 rfl rfl (by decide) (by decide)) s_X5_63 k_X5_hoseOf (by decide) ⟨rfl, rfl⟩ ⟨Nat.zero_le _, Nat.zero_le _⟩ rfl (by exact Nat.le_of_ble_eq_true rfl) rfl dX5_burst_13 ?_
  refine aw_iadd X dX5_burst_16 ?_
  refine aw_istore_n X dX5_burst_17 rfl (by decide) ?_
  refine aw_iinc X (1) dX5_burst_18 rfl rfl rfl (by decide) ?_
  refine aw_goto (tgt := 4) X dX5_burst_21 (by decide) ?_
  refine aw_iload_n X dX5_burst_4 rfl ?_
  refine aw_iconst X (4) dX5_burst_5 rfl ?_
  refine aw_icmp_ge_f (tgt := 24) X dX5_burst_6 (by decide) (by decide) ?_
  refine aw_iload_n X dX5_burst_9 rfl ?_
  refine aw_aload_n X dX5_burst_10 rfl ?_
  refine aw_iload_n X dX5_burst_11 rfl ?_
  refine aw_iconst X (3) dX5_burst_12 rfl ?_
  refine aw_cVFF (As := [.int _, .int _]) X hM (c_X5_hoseOf (kl K) U _ ma _ hM.1 _ _ 2 3 rfl rfl (by decide) (by decide)) s_X5_63 k_X5_hoseOf (by decide) ⟨rfl, rfl⟩ ⟨Nat.zero_le _, Nat.zero_le _⟩ rfl (by exact Nat.le_of_ble_eq_true rfl) rfl dX5_burst_13 ?_
  refine aw_iadd X dX5_burst_16 ?_
  refine aw_istore_n X dX5_burst_17 rfl (by decide) ?_
  refine aw_iinc X (1) dX5_burst_18 rfl rfl rfl (by decide) ?_
  refine aw_goto (tgt := 4) X dX5_burst_21 (by decide) ?_
  refine aw_iload_n X dX5_burst_4 rfl ?_
  refine aw_iconst X (4) dX5_burst_5 rfl ?_
  refine aw_icmp_ge_f (tgt := 24) X dX5_burst_6 (by decide) (by decide) ?_
  refine aw_iload_n X dX5_burst_9 rfl ?_
  refine aw_aload_n X dX5_burst_10 rfl ?_
  refine aw_iload_n X dX5_burst_11 rfl ?_
  refine aw_iconst X (3) dX5_burst_12 rfl ?_
  refine aw_cVFF (As := [.int _, .int _]) X hM (c_X5_hoseOf (kl K) U _ ma _ hM.1 _ _ 3 3 rfl rfl (by decide) (by decide)) s_X5_63 k_X5_hoseOf (by decide) ⟨rfl, rfl⟩ ⟨Nat.zero_le _, Nat.zero_le _⟩ rfl (by exact Nat.le_of_ble_eq_true rfl) rfl dX5_burst_13 ?_
  refine aw_iadd X dX5_burst_16 ?_
  refine aw_istore_n X dX5_burst_17 rfl (by decide) ?_
  refine aw_iinc X (1) dX5_burst_18 rfl rfl rfl (by decide) ?_
  refine aw_goto (tgt := 4) X dX5_burst_21 (by decide) ?_
  refine aw_iload_n X dX5_burst_4 rfl ?_
  refine aw_iconst X (4) dX5_burst_5 rfl ?_
  refine aw_icmp_ge_t (tgt := 24) X dX5_burst_6 (by decide) (by decide) ?_
  refine aw_iload_n X dX5_burst_24 rfl ?_
  exact aw_iret X hQ dX5_burst_25 ⟨congrArg (fun q => some (Value.int q)) (by unfold cBurstN; rw [← xz_b (hxz 0 (by decide)), ← xz_b (hxz 1 (by decide)), ← xz_b (hxz 2 (by decide)), ← xz_b (hxz 3 (by decide))]), rfl⟩

set_option maxHeartbeats 4000000 in
set_option maxRecDepth 100000 in
theorem c_X5_spoiltInAll (l : Launch) (U : xU) (μ0 : xH) (ma : Nat → Nat) (m : xV) (hM0 : FRep U μ0 ma 5 FM m) : CtF l U yX5_spoiltInAll cX5_spoiltInAll 3 (some .int) ({ frames := 0, cells := 0, slots := 0, locals := 0 } : Room) [.ref (ma 0)] μ0 (cSpoilt m) := by
  refine Ct.of [some (.ref (ma 0)), none, none] (by decide +kernel) rfl (Nat.le_of_ble_eq_true rfl) (fun K Q X hnm hQ => ?_)
  have hM := FR.rf hM0
  refine aw_iconst X (0) dX5_spoiltInAll_0 rfl ?_
  refine aw_istore_n X dX5_spoiltInAll_1 rfl (by decide) ?_
  refine aw_iconst X (0) dX5_spoiltInAll_2 rfl ?_
  refine aw_istore_n X dX5_spoiltInAll_3 rfl (by decide) ?_
  refine aw_iload_n X dX5_spoiltInAll_4 rfl ?_
  refine aw_iconst X (4) dX5_spoiltInAll_5 rfl ?_
  refine aw_icmp_ge_f (tgt := 27) X dX5_spoiltInAll_6 (by decide) (by decide) ?_
  refine aw_iload_n X dX5_spoiltInAll_9 rfl ?_
  refine aw_aload_n X dX5_spoiltInAll_10 rfl ?_
  refine aw_fgetA X hM 0 (t := 0) (b := 0) (n := 80) rfl f_X5_7 dX5_spoiltInAll_11 ?_
  refine aw_bipush X (18) dX5_spoiltInAll_14 rfl ?_
  refine aw_iload_n X dX5_spoiltInAll_16 rfl ?_
  refine aw_iadd X dX5_spoiltInAll_17 ?_
  refine aw_fiald X hM 0 (b := 0) (n := 80) rfl 18 (xin_d rfl) (by decide) dX5_spoiltInAll_18 ?_
  refine aw_iadd X dX5_spoiltInAll_19 ?_
  refine aw_istore_n X dX5_spoiltInAll_20 rfl (by decide) ?_
  refine aw_iinc X (1) dX5_spoiltInAll_21 rfl rfl rfl (by decide) ?_
  refine aw_goto (tgt := 4) X dX5_spoiltInAll_24 (by decide) ?_
  refine aw_iload_n X dX5_spoiltInAll_4 rfl ?_
  refine aw_iconst X (4) dX5_spoiltInAll_5 rfl ?_
  refine aw_icmp_ge_f (tgt := 27) X dX5_spoiltInAll_6 (by decide) (by decide) ?_
  refine aw_iload_n X dX5_spoiltInAll_9 rfl ?_
  refine aw_aload_n X dX5_spoiltInAll_10 rfl ?_
  refine aw_fgetA X hM 0 (t := 0) (b := 0) (n := 80) rfl f_X5_7 dX5_spoiltInAll_11 ?_
  refine aw_bipush X (18) dX5_spoiltInAll_14 rfl ?_
  refine aw_iload_n X dX5_spoiltInAll_16 rfl ?_
  refine aw_iadd X dX5_spoiltInAll_17 ?_
  refine aw_fiald X hM 0 (b := 0) (n := 80) rfl 19 (xin_d rfl) (by decide) dX5_spoiltInAll_18 ?_
  refine aw_iadd X dX5_spoiltInAll_19 ?_
  refine aw_istore_n X dX5_spoiltInAll_20 rfl (by decide) ?_
  refine aw_iinc X (1) dX5_spoiltInAll_21 rfl rfl rfl (by decide) ?_
  refine aw_goto (tgt := 4) X dX5_spoiltInAll_24 (by decide) ?_
  refine aw_iload_n X dX5_spoiltInAll_4 rfl ?_
  refine aw_iconst X (4) dX5_spoiltInAll_5 rfl ?_
  refine aw_icmp_ge_f (tgt := 27) X dX5_spoiltInAll_6 (by decide) (by decide) ?_
  refine aw_iload_n X dX5_spoiltInAll_9 rfl ?_
  refine aw_aload_n X dX5_spoiltInAll_10 rfl ?_
  refine aw_fgetA X hM 0 (t := 0) (b := 0) (n := 80) rfl f_X5_7 dX5_spoiltInAll_11 ?_
  refine aw_bipush X (18) dX5_spoiltInAll_14 rfl ?_
  refine aw_iload_n X dX5_spoiltInAll_16 rfl ?_
  refine aw_iadd X dX5_spoiltInAll_17 ?_
  refine aw_fiald X hM 0 (b := 0) (n := 80) rfl 20 (xin_d rfl) (by decide) dX5_spoiltInAll_18 ?_
  refine aw_iadd X dX5_spoiltInAll_19 ?_
  refine aw_istore_n X dX5_spoiltInAll_20 rfl (by decide) ?_
  refine aw_iinc X (1) dX5_spoiltInAll_21 rfl rfl rfl (by decide) ?_
  refine aw_goto (tgt := 4) X dX5_spoiltInAll_24 (by decide) ?_
  refine aw_iload_n X dX5_spoiltInAll_4 rfl ?_
  refine aw_iconst X (4) dX5_spoiltInAll_5 rfl ?_
  refine aw_icmp_ge_f (tgt := 27) X dX5_spoiltInAll_6 (by decide) (by decide) ?_
  refine aw_iload_n X dX5_spoiltInAll_9 rfl ?_
  refine aw_aload_n X dX5_spoiltInAll_10 rfl ?_
  refine aw_fgetA X hM 0 (t := 0) (b := 0) (n := 80) rfl f_X5_7 dX5_spoiltInAll_11 ?_
  refine aw_bipush X (18) dX5_spoiltInAll_14 rfl ?_
  refine aw_iload_n X dX5_spoiltInAll_16 rfl ?_
  refine aw_iadd X dX5_spoiltInAll_17 ?_
  refine aw_fiald X hM 0 (b := 0) (n := 80) rfl 21 (xin_d rfl) (by decide) dX5_spoiltInAll_18 ?_
  refine aw_iadd X dX5_spoiltInAll_19 ?_
  refine aw_istore_n X dX5_spoiltInAll_20 rfl (by decide) ?_
  refine aw_iinc X (1) dX5_spoiltInAll_21 rfl rfl rfl (by decide) ?_
  refine aw_goto (tgt := 4) X dX5_spoiltInAll_24 (by decide) ?_
  refine aw_iload_n X dX5_spoiltInAll_4 rfl ?_
  refine aw_iconst X (4) dX5_spoiltInAll_5 rfl ?_
  refine aw_icmp_ge_t (tgt := 27) X dX5_spoiltInAll_6 (by decide) (by decide) ?_
  refine aw_iload_n X dX5_spoiltInAll_27 rfl ?_
  exact aw_iret X hQ dX5_spoiltInAll_28 ⟨rfl, rfl⟩
