theorem xsgn (x : Int32) : 0 ≤ x ^^^ 12 ↔ 0 ≤ x := by
  have h : ∀ y : Int32, 0 ≤ y ↔ y.toBitVec.msb = false := by
    intro y
    rw [Int32.le_iff_toInt_le, BitVec.msb_eq_toInt, decide_eq_false_iff_not, Int.not_lt]
    rfl
  rw [h, h, Int32.toBitVec_xor, BitVec.msb_xor]
  have e : (12 : Int32).toBitVec.msb = false := by decide
  rw [e, Bool.xor_false]
theorem flm_eq (x : Int32) : flm x 12 = fmv x 12 := by
  have hr : (x - x / 12 * 12).toInt = x.toInt.tmod 12 := rem_toInt x 12
  have key : ∀ r : Int32, (0 ≤ x → 0 ≤ r) → (¬ 0 ≤ x → ¬ 0 < r) → (if 0 ≤ x ^^^ 12 then r else if r = 0 then r else r + 12) = fmOf r 12 := by
    intro r h1 h2
    by_cases h : 0 ≤ x
    · rw [if_pos ((xsgn x).mpr h), fmOf, if_pos (h1 h)]
    · rw [if_neg (fun q => h ((xsgn x).mp q))]
      by_cases h0 : r = 0
      · rw [if_pos h0, fmOf, h0]; rfl
      · rw [if_neg h0, fmOf, if_neg (fun q => h0 ?_)]
        have g := Int32.not_lt.mp (h2 h)
        exact Int32.le_antisymm g q
  refine key _ (fun h => ?_) (fun h => ?_)
  · rw [Int32.le_iff_toInt_le, hr]
    have h : 0 ≤ x.toInt := by rw [Int32.le_iff_toInt_le] at h; exact h
    exact Int.tmod_nonneg 12 h
  · rw [Int32.lt_iff_toInt_lt, hr]
    have h : x.toInt < 0 := by rw [Int32.le_iff_toInt_le] at h; exact Int.not_le.mp h
    have h2 : x.toInt.tmod 12 = -((-x.toInt).tmod 12) := by rw [Int.neg_tmod, Int.neg_neg]
    have h3 : 0 ≤ (-x.toInt).tmod 12 := Int.tmod_nonneg 12 (by omega)
    rw [h2]
    show ¬ ((0 : Int) < _)
    omega
theorem flm_in (x : Int32) : vp_in (flm x 12) 12 := by
  rw [flm_eq, vp_in_iff]
  exact fmv_bounds (m := 12) (by decide)
theorem xin_d {i : Int32} {n : Nat} (h : (decide (i < 0) || decide (n ≤ i.toNatClampNeg)) = false) : vp_in i n := by
  simp only [Bool.or_eq_false_iff, decide_eq_false_iff_not] at h
  exact fun q => q.elim h.1 h.2
set_option maxHeartbeats 4000000 in
set_option maxRecDepth 100000 in
theorem c_J9_floorMod_7cf53 (l : Launch) (U : xU) (μ : xH) (a b : Int32) (hb : ¬ b = 0) : CtF l U yJ9_floorMod_7cf53 cJ9_floorMod_7cf53 3 (some .int) ({ frames := 0, cells := 0, slots := 0, locals := 0 } : Room) [.int a, .int b] μ (flm a b) := by
  refine Ct.of [some (.int a), some (.int b), none] (by decide +kernel) rfl (Nat.le_of_ble_eq_true rfl) (fun K Q X hnm hQ => ?_)
  refine aw_iload_n X dJ9_floorMod_7cf53_0 rfl ?_
  refine aw_iload_n X dJ9_floorMod_7cf53_1 rfl ?_
  refine aw_irem X dJ9_floorMod_7cf53_2 hb ?_
  refine aw_istore_n X dJ9_floorMod_7cf53_3 rfl (by decide) ?_
  refine aw_iload_n X dJ9_floorMod_7cf53_4 rfl ?_
  refine aw_iload_n X dJ9_floorMod_7cf53_5 rfl ?_
  refine aw_ixor X dJ9_floorMod_7cf53_6 ?_
  refine aw_if_ge (tgt := 18) X dJ9_floorMod_7cf53_7 (by decide) (fun c7_1 => ?_) (fun c7_1 => ?_)
  · skip
    refine aw_iload_n X dJ9_floorMod_7cf53_18 rfl ?_
    exact aw_iret X hQ dJ9_floorMod_7cf53_19 ⟨congrArg (fun q => some (Value.int q)) (by simp [flm, c7_1, Int32.not_lt.mpr c7_1]), rfl⟩
  · skip
    refine aw_iload_n X dJ9_floorMod_7cf53_10 rfl ?_
    refine aw_if_eq (tgt := 18) X dJ9_floorMod_7cf53_11 (by decide) (fun c11_2 => ?_) (fun c11_2 => ?_)
    · skip
      refine aw_iload_n X dJ9_floorMod_7cf53_18 rfl ?_
      exact aw_iret X hQ dJ9_floorMod_7cf53_19 ⟨congrArg (fun q => some (Value.int q)) (by simp [flm, c7_1, Int32.not_le.mp c7_1, c11_2]), rfl⟩
    · skip
      refine aw_iload_n X dJ9_floorMod_7cf53_14 rfl ?_
      refine aw_iload_n X dJ9_floorMod_7cf53_15 rfl ?_
      refine aw_iadd X dJ9_floorMod_7cf53_16 ?_
      exact aw_iret X hQ dJ9_floorMod_7cf53_17 ⟨congrArg (fun q => some (Value.int q)) (by simp [flm, c7_1, Int32.not_le.mp c7_1, c11_2]), rfl⟩

set_option maxHeartbeats 4000000 in
set_option maxRecDepth 100000 in
theorem c_X4_isHose (l : Launch) (U : xU) (μ : xH) (a : Int32) : CtF l U yX4_isHose cX4_isHose 1 (some .boolean) ({ frames := 0, cells := 0, slots := 0, locals := 0 } : Room) [.int a] μ (bI (isG a)) := by
  refine Ct.of [some (.int a)] (by decide +kernel) rfl (Nat.le_of_ble_eq_true rfl) (fun K Q X hnm hQ => ?_)
  refine aw_iload_n X dX4_isHose_0 rfl ?_
  refine aw_if_lt (tgt := 13) X dX4_isHose_1 (by decide) (fun c1_1 => ?_) (fun c1_1 => ?_)
  · skip
    refine aw_iconst X (0) dX4_isHose_13 rfl ?_
    exact aw_zret X rfl hQ dX4_isHose_14 ⟨congrArg (fun q => some (Value.int q)) (by simp [isG, bI, c1_1, Int32.not_le.mpr c1_1]), rfl⟩
  · skip
    refine aw_iload_n X dX4_isHose_4 rfl ?_
    refine aw_iconst X (4) dX4_isHose_5 rfl ?_
    refine aw_icmp_ge (tgt := 13) X dX4_isHose_6 (by decide) (fun c6_2 => ?_) (fun c6_2 => ?_)
    · skip
      refine aw_iconst X (0) dX4_isHose_13 rfl ?_
      exact aw_zret X rfl hQ dX4_isHose_14 ⟨congrArg (fun q => some (Value.int q)) (by simp [isG, bI, c1_1, Int32.not_lt.mp c1_1, c6_2, Int32.not_lt.mpr c6_2]), rfl⟩
    · skip
      refine aw_iconst X (1) dX4_isHose_9 rfl ?_
      refine aw_goto (tgt := 14) X dX4_isHose_10 (by decide) ?_
      exact aw_zret X rfl hQ dX4_isHose_14 ⟨congrArg (fun q => some (Value.int q)) (by simp [isG, bI, c1_1, Int32.not_lt.mp c1_1, c6_2, Int32.not_le.mp c6_2]), rfl⟩

set_option maxHeartbeats 4000000 in
set_option maxRecDepth 100000 in
theorem c_X4_isGrade (l : Launch) (U : xU) (μ : xH) (a : Int32) : CtF l U yX4_isGrade cX4_isGrade 1 (some .boolean) ({ frames := 0, cells := 0, slots := 0, locals := 0 } : Room) [.int a] μ (bI (isG a)) := by
  refine Ct.of [some (.int a)] (by decide +kernel) rfl (Nat.le_of_ble_eq_true rfl) (fun K Q X hnm hQ => ?_)
  refine aw_iload_n X dX4_isGrade_0 rfl ?_
  refine aw_if_lt (tgt := 13) X dX4_isGrade_1 (by decide) (fun c1_1 => ?_) (fun c1_1 => ?_)
  · skip
    refine aw_iconst X (0) dX4_isGrade_13 rfl ?_
    exact aw_zret X rfl hQ dX4_isGrade_14 ⟨congrArg (fun q => some (Value.int q)) (by simp [isG, bI, c1_1, Int32.not_le.mpr c1_1]), rfl⟩
  · skip
    refine aw_iload_n X dX4_isGrade_4 rfl ?_
    refine aw_iconst X (4) dX4_isGrade_5 rfl ?_
    refine aw_icmp_ge (tgt := 13) X dX4_isGrade_6 (by decide) (fun c6_2 => ?_) (fun c6_2 => ?_)
    · skip
      refine aw_iconst X (0) dX4_isGrade_13 rfl ?_
      exact aw_zret X rfl hQ dX4_isGrade_14 ⟨congrArg (fun q => some (Value.int q)) (by simp [isG, bI, c1_1, Int32.not_lt.mp c1_1, c6_2, Int32.not_lt.mpr c6_2]), rfl⟩
    · skip
      refine aw_iconst X (1) dX4_isGrade_9 rfl ?_
      refine aw_goto (tgt := 14) X dX4_isGrade_10 (by decide) ?_
      exact aw_zret X rfl hQ dX4_isGrade_14 ⟨congrArg (fun q => some (Value.int q)) (by simp [isG, bI, c1_1, Int32.not_lt.mp c1_1, c6_2, Int32.not_le.mp c6_2]), rfl⟩

set_option maxHeartbeats 4000000 in
set_option maxRecDepth 100000 in
theorem c_X4_isSlot (l : Launch) (U : xU) (μ : xH) (a : Int32) : CtF l U yX4_isSlot cX4_isSlot 1 (some .boolean) ({ frames := 0, cells := 0, slots := 0, locals := 0 } : Room) [.int a] μ (bI (isS a)) := by
  refine Ct.of [some (.int a)] (by decide +kernel) rfl (Nat.le_of_ble_eq_true rfl) (fun K Q X hnm hQ => ?_)
  refine aw_iload_n X dX4_isSlot_0 rfl ?_
  refine aw_if_lt (tgt := 13) X dX4_isSlot_1 (by decide) (fun c1_1 => ?_) (fun c1_1 => ?_)
  · skip
    refine aw_iconst X (0) dX4_isSlot_13 rfl ?_
    exact aw_zret X rfl hQ dX4_isSlot_14 ⟨congrArg (fun q => some (Value.int q)) (by simp [isS, bI, c1_1, Int32.not_le.mpr c1_1]), rfl⟩
  · skip
    refine aw_iload_n X dX4_isSlot_4 rfl ?_
    refine aw_iconst X (2) dX4_isSlot_5 rfl ?_
    refine aw_icmp_ge (tgt := 13) X dX4_isSlot_6 (by decide) (fun c6_2 => ?_) (fun c6_2 => ?_)
    · skip
      refine aw_iconst X (0) dX4_isSlot_13 rfl ?_
      exact aw_zret X rfl hQ dX4_isSlot_14 ⟨congrArg (fun q => some (Value.int q)) (by simp [isS, bI, c1_1, Int32.not_lt.mp c1_1, c6_2, Int32.not_lt.mpr c6_2]), rfl⟩
    · skip
      refine aw_iconst X (1) dX4_isSlot_9 rfl ?_
      refine aw_goto (tgt := 14) X dX4_isSlot_10 (by decide) ?_
      exact aw_zret X rfl hQ dX4_isSlot_14 ⟨congrArg (fun q => some (Value.int q)) (by simp [isS, bI, c1_1, Int32.not_lt.mp c1_1, c6_2, Int32.not_le.mp c6_2]), rfl⟩

set_option maxHeartbeats 4000000 in
set_option maxRecDepth 100000 in
theorem c_X4_isError (l : Launch) (U : xU) (μ : xH) (a : Int32) : CtF l U yX4_isError cX4_isError 1 (some .boolean) ({ frames := 0, cells := 0, slots := 0, locals := 0 } : Room) [.int a] μ (bI (isErr a)) := by
  refine Ct.of [some (.int a)] (by decide +kernel) rfl (Nat.le_of_ble_eq_true rfl) (fun K Q X hnm hQ => ?_)
  refine aw_iload_n X dX4_isError_0 rfl ?_
  refine aw_ldc X dX4_isError_1 a_X4_152 ?_
  refine aw_icmp_gt (tgt := 16) X dX4_isError_3 (by decide) (fun c3_1 => ?_) (fun c3_1 => ?_)
  · skip
    refine aw_iconst X (0) dX4_isError_16 rfl ?_
    exact aw_zret X rfl hQ dX4_isError_17 ⟨congrArg (fun q => some (Value.int q)) (by simp [isErr, bI, c3_1, Int32.not_le.mpr c3_1]), rfl⟩
  · skip
    refine aw_iload_n X dX4_isError_6 rfl ?_
    refine aw_ldc X dX4_isError_7 a_X4_132 ?_
    refine aw_icmp_lt (tgt := 16) X dX4_isError_9 (by decide) (fun c9_2 => ?_) (fun c9_2 => ?_)
    · skip
      refine aw_iconst X (0) dX4_isError_16 rfl ?_
      exact aw_zret X rfl hQ dX4_isError_17 ⟨congrArg (fun q => some (Value.int q)) (by simp [isErr, bI, c3_1, Int32.not_lt.mp c3_1, c9_2, Int32.not_le.mpr c9_2]), rfl⟩
    · skip
      refine aw_iconst X (1) dX4_isError_12 rfl ?_
      refine aw_goto (tgt := 17) X dX4_isError_13 (by decide) ?_
      exact aw_zret X rfl hQ dX4_isError_17 ⟨congrArg (fun q => some (Value.int q)) (by simp [isErr, bI, c3_1, Int32.not_lt.mp c3_1, c9_2, Int32.not_lt.mp c9_2]), rfl⟩

set_option maxHeartbeats 4000000 in
set_option maxRecDepth 100000 in
theorem c_X1_isLoad (l : Launch) (U : xU) (μ : xH) (a : Int32) : CtF l U yX1_isLoad cX1_isLoad 1 (some .boolean) ({ frames := 0, cells := 0, slots := 0, locals := 0 } : Room) [.int a] μ (bI (isL a)) := by
  refine Ct.of [some (.int a)] (by decide +kernel) rfl (Nat.le_of_ble_eq_true rfl) (fun K Q X hnm hQ => ?_)
  refine aw_iload_n X dX1_isLoad_0 rfl ?_
  refine aw_if_lt (tgt := 15) X dX1_isLoad_1 (by decide) (fun c1_1 => ?_) (fun c1_1 => ?_)
  · skip
    refine aw_iconst X (0) dX1_isLoad_15 rfl ?_
    exact aw_zret X rfl hQ dX1_isLoad_16 ⟨congrArg (fun q => some (Value.int q)) (by simp [isL, bI, c1_1, Int32.not_le.mpr c1_1]), rfl⟩
  · skip
    refine aw_iload_n X dX1_isLoad_4 rfl ?_
    refine aw_sipush X (400) dX1_isLoad_5 rfl ?_
    refine aw_icmp_gt (tgt := 15) X dX1_isLoad_8 (by decide) (fun c8_2 => ?_) (fun c8_2 => ?_)
    · skip
      refine aw_iconst X (0) dX1_isLoad_15 rfl ?_
      exact aw_zret X rfl hQ dX1_isLoad_16 ⟨congrArg (fun q => some (Value.int q)) (by simp [isL, bI, c1_1, Int32.not_lt.mp c1_1, c8_2, Int32.not_le.mpr c8_2]), rfl⟩
    · skip
      refine aw_iconst X (1) dX1_isLoad_11 rfl ?_
      refine aw_goto (tgt := 16) X dX1_isLoad_12 (by decide) ?_
      exact aw_zret X rfl hQ dX1_isLoad_16 ⟨congrArg (fun q => some (Value.int q)) (by simp [isL, bI, c1_1, Int32.not_lt.mp c1_1, c8_2, Int32.not_lt.mp c8_2]), rfl⟩

set_option maxHeartbeats 4000000 in
set_option maxRecDepth 100000 in
theorem c_X1_tideAt (l : Launch) (U : xU) (μ0 : xH) (sh : Nat → Nat) (z : xV) (hJ0 : JRep U μ0 sh z) (h : Int32) : CtF l U yX1_tideAt cX1_tideAt 2 (some .int) ({ frames := 1, cells := 0, slots := 0, locals := 22 } : Room) [.ref (sh 0), .int h] μ0 (cTide z h) := by
  refine Ct.of [some (.ref (sh 0)), some (.int h)] (by decide +kernel) rfl (Nat.le_of_ble_eq_true rfl) (fun K Q X hnm hQ => ?_)
  have hJ := JR.rf hJ0
  refine aw_aload_n X dX1_tideAt_0 rfl ?_
  refine aw_jget X hJ f_X1_18 rfl dX1_tideAt_1 ?_
  refine aw_iconst X (1) dX1_tideAt_4 rfl ?_
  refine aw_jald X hJ 0 (by decide) 1 (xin_d rfl) (by decide) dX1_tideAt_5 ?_
  refine aw_gets X (t := 3) (by decide) (by decide +kernel) dX1_tideAt_6 ?_
  refine aw_iload_n X dX1_tideAt_9 rfl ?_
  refine aw_bipush X (12) dX1_tideAt_10 rfl ?_
  refine aw_cSF (As := [.int _, .int _]) X (c_J9_floorMod_7cf53 (kl K) U _ _ _ (by decide)) s_X1_88 k_J9_floorMod_7cf53 (by decide) ⟨rfl, rfl⟩ ⟨Nat.zero_le _, Nat.zero_le _⟩ rfl (by exact Nat.le_of_ble_eq_true rfl) dX1_tideAt_12 ?_
  refine aw_tab X (t := 3) (by decide) (flm_in _) dX1_tideAt_15 ?_
  refine aw_imul X dX1_tideAt_16 ?_
  refine aw_bipush X (10) dX1_tideAt_17 rfl ?_
  refine aw_idiv X dX1_tideAt_19 (by decide) ?_
  exact aw_iret X hQ dX1_tideAt_20 ⟨rfl, rfl⟩

set_option maxHeartbeats 4000000 in
set_option maxRecDepth 100000 in
theorem c_X1_heightAt (l : Launch) (U : xU) (μ0 : xH) (sh : Nat → Nat) (z : xV) (hJ0 : JRep U μ0 sh z) (d h : Int32) : CtF l U yX1_heightAt cX1_heightAt 3 (some .int) ({ frames := 2, cells := 0, slots := 0, locals := 43 } : Room) [.ref (sh 0), .int d, .int h] μ0 (cHeight z d h) := by
  refine Ct.of [some (.ref (sh 0)), some (.int d), some (.int h)] (by decide +kernel) rfl (Nat.le_of_ble_eq_true rfl) (fun K Q X hnm hQ => ?_)
  have hJ := JR.rf hJ0
  refine aw_bipush X (100) dX1_heightAt_0 rfl ?_
  refine aw_aload_n X dX1_heightAt_2 rfl ?_
  refine aw_iload_n X dX1_heightAt_3 rfl ?_
  refine aw_cVF (As := [.int _]) X (c_X1_tideAt (kl K) U _ sh _ hJ.1 _) s_X1_94 k_X1_tideAt (by decide) ⟨rfl, rfl⟩ ⟨Nat.zero_le _, Nat.zero_le _⟩ rfl (by exact Nat.le_of_ble_eq_true rfl) hJ.g0 rfl dX1_heightAt_4 ?_
  refine aw_iadd X dX1_heightAt_7 ?_
  refine aw_iload_n X dX1_heightAt_8 rfl ?_
  refine aw_isub X dX1_heightAt_9 ?_
  exact aw_iret X hQ dX1_heightAt_10 ⟨rfl, rfl⟩

set_option maxHeartbeats 4000000 in
set_option maxRecDepth 100000 in
theorem c_X1_floatsAt (l : Launch) (U : xU) (μ0 : xH) (sh : Nat → Nat) (z : xV) (hJ0 : JRep U μ0 sh z) (d h : Int32) : CtF l U yX1_floatsAt cX1_floatsAt 3 (some .boolean) ({ frames := 2, cells := 0, slots := 0, locals := 43 } : Room) [.ref (sh 0), .int d, .int h] μ0 (bI (cFloats z d h)) := by
  refine Ct.of [some (.ref (sh 0)), some (.int d), some (.int h)] (by decide +kernel) rfl (Nat.le_of_ble_eq_true rfl) (fun K Q X hnm hQ => ?_)
  have hJ := JR.rf hJ0
  refine aw_aload_n X dX1_floatsAt_0 rfl ?_
  refine aw_jget X hJ f_X1_18 rfl dX1_floatsAt_1 ?_
  refine aw_iconst X (0) dX1_floatsAt_4 rfl ?_
  refine aw_jald X hJ 0 (by decide) 0 (xin_d rfl) (by decide) dX1_floatsAt_5 ?_
  refine aw_aload_n X dX1_floatsAt_6 rfl ?_
  refine aw_iload_n X dX1_floatsAt_7 rfl ?_
  refine aw_cVF (As := [.int _]) X (c_X1_tideAt (kl K) U _ sh _ hJ.1 _) s_X1_94 k_X1_tideAt (by decide) ⟨rfl, rfl⟩ ⟨Nat.zero_le _, Nat.zero_le _⟩ rfl (by exact Nat.le_of_ble_eq_true rfl) hJ.g0 rfl dX1_floatsAt_8 ?_
  refine aw_iadd X dX1_floatsAt_11 ?_
  refine aw_iload_n X dX1_floatsAt_12 rfl ?_
  refine aw_aload_n X dX1_floatsAt_13 rfl ?_
  refine aw_jget X hJ f_X1_18 rfl dX1_floatsAt_14 ?_
  refine aw_iconst X (2) dX1_floatsAt_17 rfl ?_
  refine aw_jald X hJ 0 (by decide) 2 (xin_d rfl) (by decide) dX1_floatsAt_18 ?_
  refine aw_iadd X dX1_floatsAt_19 ?_
  refine aw_icmp_lt (tgt := 27) X dX1_floatsAt_20 (by decide) (fun c20_1 => ?_) (fun c20_1 => ?_)
  · skip
    refine aw_iconst X (0) dX1_floatsAt_27 rfl ?_
    exact aw_zret X rfl hQ dX1_floatsAt_28 ⟨congrArg (fun q => some (Value.int q)) (by simp [cFloats, bI, c20_1, Int32.not_le.mpr c20_1]), rfl⟩
  · skip
    refine aw_iconst X (1) dX1_floatsAt_23 rfl ?_
    refine aw_goto (tgt := 28) X dX1_floatsAt_24 (by decide) ?_
    exact aw_zret X rfl hQ dX1_floatsAt_28 ⟨congrArg (fun q => some (Value.int q)) (by simp [cFloats, bI, c20_1, Int32.not_lt.mp c20_1]), rfl⟩

set_option maxHeartbeats 4000000 in
set_option maxRecDepth 100000 in
theorem c_X1_isTankerAt (l : Launch) (U : xU) (μ0 : xH) (sh : Nat → Nat) (z : xV) (hJ0 : JRep U μ0 sh z) (p : Int32) : CtF l U yX1_isTankerAt cX1_isTankerAt 2 (some .boolean) ({ frames := 0, cells := 0, slots := 0, locals := 0 } : Room) [.ref (sh 0), .int p] μ0 (cIsT z p) := by
  refine Ct.of [some (.ref (sh 0)), some (.int p)] (by decide +kernel) rfl (Nat.le_of_ble_eq_true rfl) (fun K Q X hnm hQ => ?_)
  have hJ := JR.rf hJ0
  refine aw_iload_n X dX1_isTankerAt_0 rfl ?_
  refine aw_if_ne (tgt := 11) X dX1_isTankerAt_1 (by decide) (fun c1_1 => ?_) (fun c1_1 => ?_)
  · skip
    refine aw_iload_n X dX1_isTankerAt_11 rfl ?_
    refine aw_if_le (tgt := 36) X dX1_isTankerAt_12 (by decide) (fun c12_2 => ?_) (fun c12_2 => ?_)
    · skip
      refine aw_iconst X (0) dX1_isTankerAt_36 rfl ?_
      exact aw_zret X rfl hQ dX1_isTankerAt_37 ⟨congrArg (fun q => some (Value.int q)) (by simp [cIsT, bI, c1_1, c12_2, Int32.not_lt.mpr c12_2]), rfl⟩
    · skip
      refine aw_iload_n X dX1_isTankerAt_15 rfl ?_
      refine aw_aload_n X dX1_isTankerAt_16 rfl ?_
      refine aw_jget X hJ f_X1_48 rfl dX1_isTankerAt_17 ?_
      refine aw_icmp_gt (tgt := 36) X dX1_isTankerAt_20 (by decide) (fun c20_3 => ?_) (fun c20_3 => ?_)
      · skip
        refine aw_iconst X (0) dX1_isTankerAt_36 rfl ?_
        exact aw_zret X rfl hQ dX1_isTankerAt_37 ⟨congrArg (fun q => some (Value.int q)) (by simp [cIsT, bI, c1_1, c12_2, Int32.not_le.mp c12_2, c20_3, Int32.not_le.mpr c20_3]), rfl⟩
      · skip
        refine aw_iload_n X dX1_isTankerAt_23 rfl ?_
        refine aw_aload_n X dX1_isTankerAt_24 rfl ?_
        refine aw_jget X hJ f_X1_40 rfl dX1_isTankerAt_25 ?_
        refine aw_tlen X hJ dX1_isTankerAt_28 ?_
        refine aw_icmp_ge (tgt := 36) X dX1_isTankerAt_29 (by decide) (fun c29_4 => ?_) (fun c29_4 => ?_)
        · skip
          refine aw_iconst X (0) dX1_isTankerAt_36 rfl ?_
          exact aw_zret X rfl hQ dX1_isTankerAt_37 ⟨congrArg (fun q => some (Value.int q)) (by simp [cIsT, bI, c1_1, c12_2, Int32.not_le.mp c12_2, c20_3, Int32.not_lt.mp c20_3, c29_4, Int32.not_lt.mpr c29_4]), rfl⟩
        · skip
          refine aw_iconst X (1) dX1_isTankerAt_32 rfl ?_
          refine aw_goto (tgt := 37) X dX1_isTankerAt_33 (by decide) ?_
          exact aw_zret X rfl hQ dX1_isTankerAt_37 ⟨congrArg (fun q => some (Value.int q)) (by simp [cIsT, bI, c1_1, c12_2, Int32.not_le.mp c12_2, c20_3, Int32.not_lt.mp c20_3, c29_4, Int32.not_le.mp c29_4]), rfl⟩
  · skip
    refine aw_aload_n X dX1_isTankerAt_4 rfl ?_
    refine aw_jget X hJ f_X1_44 rfl dX1_isTankerAt_5 ?_
    refine aw_goto (tgt := 37) X dX1_isTankerAt_8 (by decide) ?_
    exact aw_zret X (xfit_z hJ.1.2.1.1).1 hQ dX1_isTankerAt_37 ⟨congrArg (fun q => some (Value.int q)) (by simp [cIsT, bI, c1_1]), rfl⟩

set_option maxHeartbeats 4000000 in
set_option maxRecDepth 100000 in
theorem c_X3_allUnits (l : Launch) (U : xU) (μ0 : xH) (sh : Nat → Nat) (z : xV) (hJ0 : JRep U μ0 sh z) (p : Nat) (hp : p < 6) : CtF l U yX3_allUnits cX3_allUnits 3 (some .int) ({ frames := 0, cells := 0, slots := 0, locals := 0 } : Room) [.ref (sh (11 + p))] μ0 (cUnits z p) := by
  refine Ct.of [some (.ref (sh (11 + p))), none, none] (by decide +kernel) rfl (Nat.le_of_ble_eq_true rfl) (fun K Q X hnm hQ => ?_)
  have hJ := JR.rf hJ0
  refine aw_iconst X (0) dX3_allUnits_0 rfl ?_
  refine aw_istore_n X dX3_allUnits_1 rfl (by decide) ?_
  refine aw_iconst X (0) dX3_allUnits_2 rfl ?_
  refine aw_istore_n X dX3_allUnits_3 rfl (by decide) ?_
  refine aw_iload_n X dX3_allUnits_4 rfl ?_
  refine aw_iconst X (4) dX3_allUnits_5 rfl ?_
  refine aw_icmp_ge_f (tgt := 24) X dX3_allUnits_6 (by decide) (by decide) ?_
  refine aw_iload_n X dX3_allUnits_9 rfl ?_
  refine aw_aload_n X dX3_allUnits_10 rfl ?_
  refine aw_tgetU X hJ (p) hp f_X3_9 dX3_allUnits_11 ?_
  refine aw_iload_n X dX3_allUnits_14 rfl ?_
  refine aw_uald X hJ (p) hp (tz (p) 0) (xin_d rfl) rfl dX3_allUnits_15 ?_
  refine aw_iadd X dX3_allUnits_16 ?_
  refine aw_istore_n X dX3_allUnits_17 rfl (by decide) ?_
  refine aw_iinc X (1) dX3_allUnits_18 rfl rfl rfl (by decide) ?_
  refine aw_goto (tgt := 4) X dX3_allUnits_21 (by decide) ?_
  refine aw_iload_n X dX3_allUnits_4 rfl ?_
  refine aw_iconst X (4) dX3_allUnits_5 rfl ?_
  refine aw_icmp_ge_f (tgt := 24) X dX3_allUnits_6 (by decide) (by decide) ?_
  refine aw_iload_n X dX3_allUnits_9 rfl ?_
  refine aw_aload_n X dX3_allUnits_10 rfl ?_
  refine aw_tgetU X hJ (p) hp f_X3_9 dX3_allUnits_11 ?_
  refine aw_iload_n X dX3_allUnits_14 rfl ?_
  refine aw_uald X hJ (p) hp (tz (p) 1) (xin_d rfl) rfl dX3_allUnits_15 ?_
  refine aw_iadd X dX3_allUnits_16 ?_
  refine aw_istore_n X dX3_allUnits_17 rfl (by decide) ?_
  refine aw_iinc X (1) dX3_allUnits_18 rfl rfl rfl (by decide) ?_
  refine aw_goto (tgt := 4) X dX3_allUnits_21 (by decide) ?_
  refine aw_iload_n X dX3_allUnits_4 rfl ?_
  refine aw_iconst X (4) dX3_allUnits_5 rfl ?_
  refine aw_icmp_ge_f (tgt := 24) X dX3_allUnits_6 (by decide) (by decide) ?_
  refine aw_iload_n X dX3_allUnits_9 rfl ?_
  refine aw_aload_n X dX3_allUnits_10 rfl ?_
  refine aw_tgetU X hJ (p) hp f_X3_9 dX3_allUnits_11 ?_
  refine aw_iload_n X dX3_allUnits_14 rfl ?_
  refine aw_uald X hJ (p) hp (tz (p) 2) (xin_d rfl) rfl dX3_allUnits_15 ?_
  refine aw_iadd X dX3_allUnits_16 ?_
  refine aw_istore_n X dX3_allUnits_17 rfl (by decide) ?_
  refine aw_iinc X (1) dX3_allUnits_18 rfl rfl rfl (by decide) ?_
  refine aw_goto (tgt := 4) X dX3_allUnits_21 (by decide) ?_
  refine aw_iload_n X dX3_allUnits_4 rfl ?_
  refine aw_iconst X (4) dX3_allUnits_5 rfl ?_
  refine aw_icmp_ge_f (tgt := 24) X dX3_allUnits_6 (by decide) (by decide) ?_
  refine aw_iload_n X dX3_allUnits_9 rfl ?_
  refine aw_aload_n X dX3_allUnits_10 rfl ?_
  refine aw_tgetU X hJ (p) hp f_X3_9 dX3_allUnits_11 ?_
  refine aw_iload_n X dX3_allUnits_14 rfl ?_
  refine aw_uald X hJ (p) hp (tz (p) 3) (xin_d rfl) rfl dX3_allUnits_15 ?_
  refine aw_iadd X dX3_allUnits_16 ?_
  refine aw_istore_n X dX3_allUnits_17 rfl (by decide) ?_
  refine aw_iinc X (1) dX3_allUnits_18 rfl rfl rfl (by decide) ?_
  refine aw_goto (tgt := 4) X dX3_allUnits_21 (by decide) ?_
  refine aw_iload_n X dX3_allUnits_4 rfl ?_
  refine aw_iconst X (4) dX3_allUnits_5 rfl ?_
  refine aw_icmp_ge_t (tgt := 24) X dX3_allUnits_6 (by decide) (by decide) ?_
  refine aw_iload_n X dX3_allUnits_24 rfl ?_
  exact aw_iret X hQ dX3_allUnits_25 ⟨rfl, rfl⟩

set_option maxHeartbeats 4000000 in
set_option maxRecDepth 100000 in
theorem c_X3_draught (l : Launch) (U : xU) (μ0 : xH) (sh : Nat → Nat) (z : xV) (hJ0 : JRep U μ0 sh z) (p : Nat) (hp : p < 6) : CtF l U yX3_draught cX3_draught 1 (some .int) ({ frames := 1, cells := 0, slots := 0, locals := 22 } : Room) [.ref (sh (11 + p))] μ0 (cDraught z p) := by
  refine Ct.of [some (.ref (sh (11 + p)))] (by decide +kernel) rfl (Nat.le_of_ble_eq_true rfl) (fun K Q X hnm hQ => ?_)
  have hJ := JR.rf hJ0
  refine aw_bipush X (40) dX3_draught_0 rfl ?_
  refine aw_aload_n X dX3_draught_2 rfl ?_
  refine aw_cVF (As := []) X (c_X3_allUnits (kl K) U _ sh _ hJ.1 (p) hp) s_X3_25 k_X3_allUnits (by decide) ⟨rfl, rfl⟩ ⟨Nat.zero_le _, Nat.zero_le _⟩ rfl (by exact Nat.le_of_ble_eq_true rfl) (hJ.gT _ hp) rfl dX3_draught_3 ?_
  refine aw_bipush X (20) dX3_draught_6 rfl ?_
  refine aw_idiv X dX3_draught_8 (by decide) ?_
  refine aw_iadd X dX3_draught_9 ?_
  exact aw_iret X hQ dX3_draught_10 ⟨rfl, rfl⟩

set_option maxHeartbeats 4000000 in
set_option maxRecDepth 100000 in
theorem c_X0_isConnected (l : Launch) (U : xU) (μ0 : xH) (sh : Nat → Nat) (z : xV) (hJ0 : JRep U μ0 sh z) (i : Nat) (hi : i < 4) : CtF l U yX0_isConnected cX0_isConnected 1 (some .boolean) ({ frames := 1, cells := 0, slots := 0, locals := 20 } : Room) [.ref (sh (7 + i))] μ0 (bI (isG (z (hz i 2)))) := by
  refine Ct.of [some (.ref (sh (7 + i)))] (by decide +kernel) rfl (Nat.le_of_ble_eq_true rfl) (fun K Q X hnm hQ => ?_)
  have hJ := JR.rf hJ0
  refine aw_aload_n X dX0_isConnected_0 rfl ?_
  refine aw_hget X hJ (i) hi f_X0_19 rfl dX0_isConnected_1 ?_
  refine aw_cSNF (As := [.int _]) X (c_X4_isGrade (kl K) U _ _) s_X0_35 k_X4_isGrade (by decide) ⟨rfl, rfl⟩ ⟨Nat.zero_le _, Nat.zero_le _⟩ rfl (by exact Nat.le_of_ble_eq_true rfl) dX0_isConnected_4 ?_
  exact aw_zret X (bI_nar _) hQ dX0_isConnected_7 ⟨rfl, rfl⟩

set_option maxHeartbeats 4000000 in
set_option maxRecDepth 100000 in
theorem c_X0_hasOtherLast (l : Launch) (U : xU) (μ0 : xH) (sh : Nat → Nat) (z : xV) (hJ0 : JRep U μ0 sh z) (i : Nat) (hi : i < 4) : CtF l U yX0_hasOtherLast cX0_hasOtherLast 1 (some .boolean) ({ frames := 0, cells := 0, slots := 0, locals := 0 } : Room) [.ref (sh (7 + i))] μ0 (bI (cOther z i)) := by
  refine Ct.of [some (.ref (sh (7 + i)))] (by decide +kernel) rfl (Nat.le_of_ble_eq_true rfl) (fun K Q X hnm hQ => ?_)
  have hJ := JR.rf hJ0
  refine aw_aload_n X dX0_hasOtherLast_0 rfl ?_
  refine aw_hget X hJ (i) hi f_X0_16 rfl dX0_hasOtherLast_1 ?_
  refine aw_ldc X dX0_hasOtherLast_4 a_X0_15 ?_
  refine aw_icmp_eq (tgt := 24) X dX0_hasOtherLast_6 (by decide) (fun c6_1 => ?_) (fun c6_1 => ?_)
  · skip
    refine aw_iconst X (0) dX0_hasOtherLast_24 rfl ?_
    exact aw_zret X rfl hQ dX0_hasOtherLast_25 ⟨congrArg (fun q => some (Value.int q)) (by simp [cOther, bI, c6_1]), rfl⟩
  · skip
    refine aw_aload_n X dX0_hasOtherLast_9 rfl ?_
    refine aw_hget X hJ (i) hi f_X0_16 rfl dX0_hasOtherLast_10 ?_
    refine aw_aload_n X dX0_hasOtherLast_13 rfl ?_
    refine aw_hget X hJ (i) hi f_X0_19 rfl dX0_hasOtherLast_14 ?_
    refine aw_icmp_eq (tgt := 24) X dX0_hasOtherLast_17 (by decide) (fun c17_2 => ?_) (fun c17_2 => ?_)
    · skip
      refine aw_iconst X (0) dX0_hasOtherLast_24 rfl ?_
      exact aw_zret X rfl hQ dX0_hasOtherLast_25 ⟨congrArg (fun q => some (Value.int q)) (by simp [cOther, bI, c6_1, c17_2]), rfl⟩
    · skip
      refine aw_iconst X (1) dX0_hasOtherLast_20 rfl ?_
      refine aw_goto (tgt := 25) X dX0_hasOtherLast_21 (by decide) ?_
      exact aw_zret X rfl hQ dX0_hasOtherLast_25 ⟨congrArg (fun q => some (Value.int q)) (by simp [cOther, bI, c6_1, c17_2]), rfl⟩

set_option maxHeartbeats 4000000 in
set_option maxRecDepth 100000 in
theorem c_X1_connectedHoses (l : Launch) (U : xU) (μ0 : xH) (sh : Nat → Nat) (z : xV) (hJ0 : JRep U μ0 sh z) : CtF l U yX1_connectedHoses cX1_connectedHoses 3 (some .int) ({ frames := 2, cells := 0, slots := 0, locals := 40 } : Room) [.ref (sh 0)] μ0 (cConnN z) := by
  refine Ct.of [some (.ref (sh 0)), none, none] (by decide +kernel) rfl (Nat.le_of_ble_eq_true rfl) (fun K Q X hnm hQ => ?_)
  have hJ := JR.rf hJ0
  refine aw_iconst X (0) dX1_connectedHoses_0 rfl ?_
  refine aw_istore_n X dX1_connectedHoses_1 rfl (by decide) ?_
  refine aw_iconst X (0) dX1_connectedHoses_2 rfl ?_
  refine aw_istore_n X dX1_connectedHoses_3 rfl (by decide) ?_
  refine aw_iload_n X dX1_connectedHoses_4 rfl ?_
  refine aw_iconst X (4) dX1_connectedHoses_5 rfl ?_
  refine aw_icmp_ge_f (tgt := 35) X dX1_connectedHoses_6 (by decide) (by decide) ?_
  refine aw_iload_n X dX1_connectedHoses_9 rfl ?_
  refine aw_aload_n X dX1_connectedHoses_10 rfl ?_
  refine aw_jget X hJ f_X1_34 rfl dX1_connectedHoses_11 ?_
  refine aw_iload_n X dX1_connectedHoses_14 rfl ?_
  refine aw_hoseAt X hJ (0) (by decide) (by decide) dX1_connectedHoses_15 ?_
  refine aw_cVF (As := []) X (c_X0_isConnected (kl K) U _ sh _ hJ.1 (0) (by decide)) s_X1_144 k_X0_isConnected (by decide) ⟨rfl, rfl⟩ ⟨Nat.zero_le _, Nat.zero_le _⟩ rfl (by exact Nat.le_of_ble_eq_true rfl) (hJ.gH _ (by decide)) rfl dX1_connectedHoses_16 ?_
  refine aw_bj (tgt := 26) (t2 := 27) X dX1_connectedHoses_19 dX1_connectedHoses_22 dX1_connectedHoses_23 dX1_connectedHoses_26 (by decide) (by decide) rfl ?_
  rw [bI_ne]
  refine aw_iadd X dX1_connectedHoses_27 ?_
  refine aw_istore_n X dX1_connectedHoses_28 rfl (by decide) ?_
  refine aw_iinc X (1) dX1_connectedHoses_29 rfl rfl rfl (by decide) ?_
  refine aw_goto (tgt := 4) X dX1_connectedHoses_32 (by decide) ?_
  refine aw_iload_n X dX1_connectedHoses_4 rfl ?_
  refine aw_iconst X (4) dX1_connectedHoses_5 rfl ?_
  refine aw_icmp_ge_f (tgt := 35) X dX1_connectedHoses_6 (by decide) (by decide) ?_
  refine aw_iload_n X dX1_connectedHoses_9 rfl ?_
  refine aw_aload_n X dX1_connectedHoses_10 rfl ?_
  refine aw_jget X hJ f_X1_34 rfl dX1_connectedHoses_11 ?_
  refine aw_iload_n X dX1_connectedHoses_14 rfl ?_
  refine aw_hoseAt X hJ (1) (by decide) (by decide) dX1_connectedHoses_15 ?_
  refine aw_cVF (As := []) X (c_X0_isConnected (kl K) U _ sh _ hJ.1 (1) (by decide)) s_X1_144 k_X0_isConnected (by decide) ⟨rfl, rfl⟩ ⟨Nat.zero_le _, Nat.zero_le _⟩ rfl (by exact Nat.le_of_ble_eq_true rfl) (hJ.gH _ (by decide)) rfl dX1_connectedHoses_16 ?_
  refine aw_bj (tgt := 26) (t2 := 27) X dX1_connectedHoses_19 dX1_connectedHoses_22 dX1_connectedHoses_23 dX1_connectedHoses_26 (by decide) (by decide) rfl ?_
  rw [bI_ne]
  refine aw_iadd X dX1_connectedHoses_27 ?_
  refine aw_istore_n X dX1_connectedHoses_28 rfl (by decide) ?_
  refine aw_iinc X (1) dX1_connectedHoses_29 rfl rfl rfl (by decide) ?_
  refine aw_goto (tgt := 4) X dX1_connectedHoses_32 (by decide) ?_
  refine aw_iload_n X dX1_connectedHoses_4 rfl ?_
  refine aw_iconst X (4) dX1_connectedHoses_5 rfl ?_
  refine aw_icmp_ge_f (tgt := 35) X dX1_connectedHoses_6 (by decide) (by decide) ?_
  refine aw_iload_n X dX1_connectedHoses_9 rfl ?_
  refine aw_aload_n X dX1_connectedHoses_10 rfl ?_
  refine aw_jget X hJ f_X1_34 rfl dX1_connectedHoses_11 ?_
  refine aw_iload_n X dX1_connectedHoses_14 rfl ?_
  refine aw_hoseAt X hJ (2) (by decide) (by decide) dX1_connectedHoses_15 ?_
  refine aw_cVF (As := []) X (c_X0_isConnected (kl K) U _ sh _ hJ.1 (2) (by decide)) s_X1_144 k_X0_isConnected (by decide) ⟨rfl, rfl⟩ ⟨Nat.zero_le _, Nat.zero_le _⟩ rfl (by exact Nat.le_of_ble_eq_true rfl) (hJ.gH _ (by decide)) rfl dX1_connectedHoses_16 ?_
  refine aw_bj (tgt := 26) (t2 := 27) X dX1_connectedHoses_19 dX1_connectedHoses_22 dX1_connectedHoses_23 dX1_connectedHoses_26 (by decide) (by decide) rfl ?_
  rw [bI_ne]
  refine aw_iadd X dX1_connectedHoses_27 ?_
  refine aw_istore_n X dX1_connectedHoses_28 rfl (by decide) ?_
  refine aw_iinc X (1) dX1_connectedHoses_29 rfl rfl rfl (by decide) ?_
  refine aw_goto (tgt := 4) X dX1_connectedHoses_32 (by decide) ?_
  refine aw_iload_n X dX1_connectedHoses_4 rfl ?_
  refine aw_iconst X (4) dX1_connectedHoses_5 rfl ?_
  refine aw_icmp_ge_f (tgt := 35) X dX1_connectedHoses_6 (by decide) (by decide) ?_
  refine aw_iload_n X dX1_connectedHoses_9 rfl ?_
  refine aw_aload_n X dX1_connectedHoses_10 rfl ?_
  refine aw_jget X hJ f_X1_34 rfl dX1_connectedHoses_11 ?_
  refine aw_iload_n X dX1_connectedHoses_14 rfl ?_
  refine aw_hoseAt X hJ (3) (by decide) (by decide) dX1_connectedHoses_15 ?_
  refine aw_cVF (As := []) X (c_X0_isConnected (kl K) U _ sh _ hJ.1 (3) (by decide)) s_X1_144 k_X0_isConnected (by decide) ⟨rfl, rfl⟩ ⟨Nat.zero_le _, Nat.zero_le _⟩ rfl (by exact Nat.le_of_ble_eq_true rfl) (hJ.gH _ (by decide)) rfl dX1_connectedHoses_16 ?_
  refine aw_bj (tgt := 26) (t2 := 27) X dX1_connectedHoses_19 dX1_connectedHoses_22 dX1_connectedHoses_23 dX1_connectedHoses_26 (by decide) (by decide) rfl ?_
  rw [bI_ne]
  refine aw_iadd X dX1_connectedHoses_27 ?_
  refine aw_istore_n X dX1_connectedHoses_28 rfl (by decide) ?_
  refine aw_iinc X (1) dX1_connectedHoses_29 rfl rfl rfl (by decide) ?_
  refine aw_goto (tgt := 4) X dX1_connectedHoses_32 (by decide) ?_
  refine aw_iload_n X dX1_connectedHoses_4 rfl ?_
  refine aw_iconst X (4) dX1_connectedHoses_5 rfl ?_
  refine aw_icmp_ge_t (tgt := 35) X dX1_connectedHoses_6 (by decide) (by decide) ?_
  refine aw_iload_n X dX1_connectedHoses_35 rfl ?_
  exact aw_iret X hQ dX1_connectedHoses_36 ⟨rfl, rfl⟩

set_option maxHeartbeats 4000000 in
set_option maxRecDepth 100000 in
theorem c_X1_burstHoses (l : Launch) (U : xU) (μ0 : xH) (sh : Nat → Nat) (z : xV) (hJ0 : JRep U μ0 sh z) : CtF l U yX1_burstHoses cX1_burstHoses 3 (some .int) ({ frames := 0, cells := 0, slots := 0, locals := 0 } : Room) [.ref (sh 0)] μ0 (cBurstN z) := by
  refine Ct.of [some (.ref (sh 0)), none, none] (by decide +kernel) rfl (Nat.le_of_ble_eq_true rfl) (fun K Q X hnm hQ => ?_)
  have hJ := JR.rf hJ0
  refine aw_iconst X (0) dX1_burstHoses_0 rfl ?_
  refine aw_istore_n X dX1_burstHoses_1 rfl (by decide) ?_
  refine aw_iconst X (0) dX1_burstHoses_2 rfl ?_
  refine aw_istore_n X dX1_burstHoses_3 rfl (by decide) ?_
  refine aw_iload_n X dX1_burstHoses_4 rfl ?_
  refine aw_iconst X (4) dX1_burstHoses_5 rfl ?_
  refine aw_icmp_ge_f (tgt := 35) X dX1_burstHoses_6 (by decide) (by decide) ?_
  refine aw_iload_n X dX1_burstHoses_9 rfl ?_
  refine aw_aload_n X dX1_burstHoses_10 rfl ?_
  refine aw_jget X hJ f_X1_34 rfl dX1_burstHoses_11 ?_
  refine aw_iload_n X dX1_burstHoses_14 rfl ?_
  refine aw_hoseAt X hJ (0) (by decide) (by decide) dX1_burstHoses_15 ?_
  refine aw_hget X hJ (0) (by decide) f_X1_141 rfl dX1_burstHoses_16 ?_
  refine aw_bj (tgt := 26) (t2 := 27) X dX1_burstHoses_19 dX1_burstHoses_22 dX1_burstHoses_23 dX1_burstHoses_26 (by decide) (by decide) rfl ?_
  refine aw_iadd X dX1_burstHoses_27 ?_
  refine aw_istore_n X dX1_burstHoses_28 rfl (by decide) ?_
  refine aw_iinc X (1) dX1_burstHoses_29 rfl rfl rfl (by decide) ?_
  refine aw_goto (tgt := 4) X dX1_burstHoses_32 (by decide) ?_
  refine aw_iload_n X dX1_burstHoses_4 rfl ?_
  refine aw_iconst X (4) dX1_burstHoses_5 rfl ?_
  refine aw_icmp_ge_f (tgt := 35) X dX1_burstHoses_6 (by decide) (by decide) ?_
  refine aw_iload_n X dX1_burstHoses_9 rfl ?_
  refine aw_aload_n X dX1_burstHoses_10 rfl ?_
  refine aw_jget X hJ f_X1_34 rfl dX1_burstHoses_11 ?_
  refine aw_iload_n X dX1_burstHoses_14 rfl ?_
  refine aw_hoseAt X hJ (1) (by decide) (by decide) dX1_burstHoses_15 ?_
  refine aw_hget X hJ (1) (by decide) f_X1_141 rfl dX1_burstHoses_16 ?_
  refine aw_bj (tgt := 26) (t2 := 27) X dX1_burstHoses_19 dX1_burstHoses_22 dX1_burstHoses_23 dX1_burstHoses_26 (by decide) (by decide) rfl ?_
  refine aw_iadd X dX1_burstHoses_27 ?_
  refine aw_istore_n X dX1_burstHoses_28 rfl (by decide) ?_
  refine aw_iinc X (1) dX1_burstHoses_29 rfl rfl rfl (by decide) ?_
  refine aw_goto (tgt := 4) X dX1_burstHoses_32 (by decide) ?_
  refine aw_iload_n X dX1_burstHoses_4 rfl ?_
  refine aw_iconst X (4) dX1_burstHoses_5 rfl ?_
  refine aw_icmp_ge_f (tgt := 35) X dX1_burstHoses_6 (by decide) (by decide) ?_
  refine aw_iload_n X dX1_burstHoses_9 rfl ?_
  refine aw_aload_n X dX1_burstHoses_10 rfl ?_
  refine aw_jget X hJ f_X1_34 rfl dX1_burstHoses_11 ?_
  refine aw_iload_n X dX1_burstHoses_14 rfl ?_
  refine aw_hoseAt X hJ (2) (by decide) (by decide) dX1_burstHoses_15 ?_
  refine aw_hget X hJ (2) (by decide) f_X1_141 rfl dX1_burstHoses_16 ?_
  refine aw_bj (tgt := 26) (t2 := 27) X dX1_burstHoses_19 dX1_burstHoses_22 dX1_burstHoses_23 dX1_burstHoses_26 (by decide) (by decide) rfl ?_
  refine aw_iadd X dX1_burstHoses_27 ?_
  refine aw_istore_n X dX1_burstHoses_28 rfl (by decide) ?_
  refine aw_iinc X (1) dX1_burstHoses_29 rfl rfl rfl (by decide) ?_
  refine aw_goto (tgt := 4) X dX1_burstHoses_32 (by decide) ?_
  refine aw_iload_n X dX1_burstHoses_4 rfl ?_
  refine aw_iconst X (4) dX1_burstHoses_5 rfl ?_
  refine aw_icmp_ge_f (tgt := 35) X dX1_burstHoses_6 (by decide) (by decide) ?_
  refine aw_iload_n X dX1_burstHoses_9 rfl ?_
  refine aw_aload_n X dX1_burstHoses_10 rfl ?_
  refine aw_jget X hJ f_X1_34 rfl dX1_burstHoses_11 ?_
  refine aw_iload_n X dX1_burstHoses_14 rfl ?_
  refine aw_hoseAt X hJ (3) (by decide) (by decide) dX1_burstHoses_15 ?_
  refine aw_hget X hJ (3) (by decide) f_X1_141 rfl dX1_burstHoses_16 ?_
  refine aw_bj (tgt := 26) (t2 := 27) X dX1_burstHoses_19 dX1_burstHoses_22 dX1_burstHoses_23 dX1_burstHoses_26 (by decide) (by decide) rfl ?_
  refine aw_iadd X dX1_burstHoses_27 ?_
  refine aw_istore_n X dX1_burstHoses_28 rfl (by decide) ?_
  refine aw_iinc X (1) dX1_burstHoses_29 rfl rfl rfl (by decide) ?_
  refine aw_goto (tgt := 4) X dX1_burstHoses_32 (by decide) ?_
  refine aw_iload_n X dX1_burstHoses_4 rfl ?_
  refine aw_iconst X (4) dX1_burstHoses_5 rfl ?_
  refine aw_icmp_ge_t (tgt := 35) X dX1_burstHoses_6 (by decide) (by decide) ?_
  refine aw_iload_n X dX1_burstHoses_35 rfl ?_
  exact aw_iret X hQ dX1_burstHoses_36 ⟨rfl, rfl⟩

set_option maxHeartbeats 4000000 in
set_option maxRecDepth 100000 in
theorem c_X1_allSpoilt (l : Launch) (U : xU) (μ0 : xH) (sh : Nat → Nat) (z : xV) (hJ0 : JRep U μ0 sh z) : CtF l U yX1_allSpoilt cX1_allSpoilt 3 (some .int) ({ frames := 0, cells := 0, slots := 0, locals := 0 } : Room) [.ref (sh 0)] μ0 (cSpoilt z) := by
  refine Ct.of [some (.ref (sh 0)), none, none] (by decide +kernel) rfl (Nat.le_of_ble_eq_true rfl) (fun K Q X hnm hQ => ?_)
  have hJ := JR.rf hJ0
  refine aw_iconst X (0) dX1_allSpoilt_0 rfl ?_
  refine aw_istore_n X dX1_allSpoilt_1 rfl (by decide) ?_
  refine aw_iconst X (0) dX1_allSpoilt_2 rfl ?_
  refine aw_istore_n X dX1_allSpoilt_3 rfl (by decide) ?_
  refine aw_iload_n X dX1_allSpoilt_4 rfl ?_
  refine aw_iconst X (4) dX1_allSpoilt_5 rfl ?_
  refine aw_icmp_ge_f (tgt := 24) X dX1_allSpoilt_6 (by decide) (by decide) ?_
  refine aw_iload_n X dX1_allSpoilt_9 rfl ?_
  refine aw_aload_n X dX1_allSpoilt_10 rfl ?_
  refine aw_jget X hJ f_X1_26 rfl dX1_allSpoilt_11 ?_
  refine aw_iload_n X dX1_allSpoilt_14 rfl ?_
  refine aw_jald X hJ 2 (by decide) 18 (xin_d rfl) (by decide) dX1_allSpoilt_15 ?_
  refine aw_iadd X dX1_allSpoilt_16 ?_
  refine aw_istore_n X dX1_allSpoilt_17 rfl (by decide) ?_
  refine aw_iinc X (1) dX1_allSpoilt_18 rfl rfl rfl (by decide) ?_
  refine aw_goto (tgt := 4) X dX1_allSpoilt_21 (by decide) ?_
  refine aw_iload_n X dX1_allSpoilt_4 rfl ?_
  refine aw_iconst X (4) dX1_allSpoilt_5 rfl ?_
  refine aw_icmp_ge_f (tgt := 24) X dX1_allSpoilt_6 (by decide) (by decide) ?_
  refine aw_iload_n X dX1_allSpoilt_9 rfl ?_
  refine aw_aload_n X dX1_allSpoilt_10 rfl ?_
  refine aw_jget X hJ f_X1_26 rfl dX1_allSpoilt_11 ?_
  refine aw_iload_n X dX1_allSpoilt_14 rfl ?_
  refine aw_jald X hJ 2 (by decide) 19 (xin_d rfl) (by decide) dX1_allSpoilt_15 ?_
  refine aw_iadd X dX1_allSpoilt_16 ?_
  refine aw_istore_n X dX1_allSpoilt_17 rfl (by decide) ?_
  refine aw_iinc X (1) dX1_allSpoilt_18 rfl rfl rfl (by decide) ?_
  refine aw_goto (tgt := 4) X dX1_allSpoilt_21 (by decide) ?_
  refine aw_iload_n X dX1_allSpoilt_4 rfl ?_
  refine aw_iconst X (4) dX1_allSpoilt_5 rfl ?_
  refine aw_icmp_ge_f (tgt := 24) X dX1_allSpoilt_6 (by decide) (by decide) ?_
  refine aw_iload_n X dX1_allSpoilt_9 rfl ?_
  refine aw_aload_n X dX1_allSpoilt_10 rfl ?_
  refine aw_jget X hJ f_X1_26 rfl dX1_allSpoilt_11 ?_
  refine aw_iload_n X dX1_allSpoilt_14 rfl ?_
  refine aw_jald X hJ 2 (by decide) 20 (xin_d rfl) (by decide) dX1_allSpoilt_15 ?_
  refine aw_iadd X dX1_allSpoilt_16 ?_
  refine aw_istore_n X dX1_allSpoilt_17 rfl (by decide) ?_
  refine aw_iinc X (1) dX1_allSpoilt_18 rfl rfl rfl (by decide) ?_
  refine aw_goto (tgt := 4) X dX1_allSpoilt_21 (by decide) ?_
  refine aw_iload_n X dX1_allSpoilt_4 rfl ?_
  refine aw_iconst X (4) dX1_allSpoilt_5 rfl ?_
  refine aw_icmp_ge_f (tgt := 24) X dX1_allSpoilt_6 (by decide) (by decide) ?_
  refine aw_iload_n X dX1_allSpoilt_9 rfl ?_
  refine aw_aload_n X dX1_allSpoilt_10 rfl ?_
  refine aw_jget X hJ f_X1_26 rfl dX1_allSpoilt_11 ?_
  refine aw_iload_n X dX1_allSpoilt_14 rfl ?_
  refine aw_jald X hJ 2 (by decide) 21 (xin_d rfl) (by decide) dX1_allSpoilt_15 ?_
  refine aw_iadd X dX1_allSpoilt_16 ?_
  refine aw_istore_n X dX1_allSpoilt_17 rfl (by decide) ?_
  refine aw_iinc X (1) dX1_allSpoilt_18 rfl rfl rfl (by decide) ?_
  refine aw_goto (tgt := 4) X dX1_allSpoilt_21 (by decide) ?_
  refine aw_iload_n X dX1_allSpoilt_4 rfl ?_
  refine aw_iconst X (4) dX1_allSpoilt_5 rfl ?_
  refine aw_icmp_ge_t (tgt := 24) X dX1_allSpoilt_6 (by decide) (by decide) ?_
  refine aw_iload_n X dX1_allSpoilt_24 rfl ?_
  exact aw_iret X hQ dX1_allSpoilt_25 ⟨rfl, rfl⟩
