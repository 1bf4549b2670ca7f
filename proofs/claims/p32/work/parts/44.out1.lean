/-! what the outer object's methods answer and do -/
def rD (k : Nat) : Nat → Nat := fun r => if 3 ≤ r ∧ r < 3 + k then r + 1 else r
def rDrop : Nat → Nat := fun r => if 3 ≤ r ∧ r < 8 then r + 1 else if r = 8 then 3 else r
def rRec (un : Nat) : Nat → Nat := nup (nup (fun r => r) (3 + un) 2) 2 (3 + un)
theorem rD_0 : rD 0 = fun r => r := by
  funext r
  unfold rD
  rw [if_neg (by omega)]
theorem rD_at {k : Nat} : rD k (3 + (k + 1)) = 3 + (k + 1) := by
  unfold rD
  rw [if_neg (by omega)]
theorem rD_s {k : Nat} : nup (rD k) (3 + k) (3 + (k + 1)) = rD (k + 1) := by
  funext r
  unfold nup rD
  by_cases h : r = 3 + k
  · rw [if_pos h, if_pos (by omega)]; omega
  · rw [if_neg h]
    by_cases h2 : 3 ≤ r ∧ r < 3 + k
    · rw [if_pos h2, if_pos (by omega)]
    · rw [if_neg h2, if_neg (by omega)]
theorem rD_5 : nup (rD 5) (3 + 5) 3 = rDrop := by
  funext r
  unfold nup rD rDrop
  by_cases h : r = 8
  · subst h; rfl
  · rw [if_neg (by omega)]
    by_cases h2 : 3 ≤ r ∧ r < 8
    · rw [if_pos (by omega), if_pos h2]
    · rw [if_neg (by omega), if_neg h2, if_neg h]
theorem rDrop_i : ∀ r s, r < 11 → s < 11 → rDrop r = rDrop s → r = s := by
  intro r s hr hs h
  unfold rDrop at h
  repeat' split at h
  all_goals omega
theorem rRec_i {un : Nat} (hu : un ≤ 5) : ∀ r s, r < 11 → s < 11 → rRec un r = rRec un s → r = s := by
  intro r s hr hs h
  unfold rRec nup at h
  dsimp only at h
  repeat' split at h
  all_goals omega
def rAll (un : Nat) : Nat → Nat := fun r => if un = 6 then rDrop (rRec 5 r) else rRec un r
def oUn (un : Nat) : Nat := if un = 6 then 6 else un + 1
def oRs (rs : xR) (un : Nat) : xR := fun r => rs (rAll un r)
/-- a change's answer and rows, recorded unless it is an error -/
def dRs (rs : xR) (un : Nat) (q : Int32 × xV) : xR := if isErr q.1 = true then rup (rup rs 2 (rs 0)) 0 q.2 else oRs (rup (rup rs 2 (rs 0)) 0 q.2) un
def dUn (un : Nat) (q : Int32 × xV) : Nat := if isErr q.1 = true then un else oUn un
set_option maxHeartbeats 1000000 in
set_option maxRecDepth 100000 in
theorem c_X4_dropOldest (l : Launch) (U : xU) (lab : Nat → Nat) (μ0 : xH) (shs : Nat → Nat → Nat) (pa o : Nat → Nat) (rs : xR) (p : xV) (un : Nat) (sv : Nat → Int32) (hO0 : ORep U lab μ0 shs pa o rs p un sv) : CtOK l U yX4_dropOldest cX4_dropOldest 3 none ({ frames := 0, cells := 0, slots := 0, locals := 0 } : Room) [.ref (o 0)] lab μ0 (fun r => shs (rDrop r)) pa o (fun r => rs (rDrop r)) p 5 sv := by
  refine Ct.of [some (.ref (o 0)), none, none] (by decide +kernel) rfl (Nat.le_of_ble_eq_true rfl) (fun K Q X hnm hQ => ?_)
  obtain ⟨μ, hμ, hO⟩ : ∃ μ : xH, μ0 = μ ∧ OR U lab μ0 μ shs pa o rs p un sv := ⟨μ0, rfl, OR.rf hO0⟩
  refine aw_mu hμ ?_
  have hW := hO.om
  refine aw_aload_n X dX4_dropOldest_0 rfl ?_
  refine aw_mget X hW f_X4_26 rfl dX4_dropOldest_1 ?_
  refine aw_iconst X (0) dX4_dropOldest_4 rfl ?_
  refine aw_mhist X hW (0) (by omega) (3) rfl rfl dX4_dropOldest_5 ?_
  refine aw_astore_n X dX4_dropOldest_6 rfl (by decide) ?_
  refine aw_iconst X (1) dX4_dropOldest_7 rfl ?_
  refine aw_istore_n X dX4_dropOldest_8 rfl (by decide) ?_
  have loop : ∀ (d k : Nat) (μ : xH), k + d = 5 → OM U lab μ0 μ shs pa o rs p sv (rD k) un → AW U K 3 0 0 Q μ 9 [some (.ref (o 0)), some (.ref (shs 3 0)), some (.int (nI (k + 1)))] [] := by
    intro d
    induction d with
    | zero =>
      intro k μ hk hW
      obtain rfl : k = 5 := by omega
      refine aw_iload_n X dX4_dropOldest_9 rfl ?_
      refine aw_bipush X (6) dX4_dropOldest_10 rfl ?_
      refine aw_icmp_ge_t (tgt := 35) X dX4_dropOldest_12 (by decide) (by decide) ?_
      refine aw_aload_n X dX4_dropOldest_35 rfl ?_
      refine aw_mget X hW f_X4_26 rfl dX4_dropOldest_36 ?_
      refine aw_iconst X (5) dX4_dropOldest_39 rfl ?_
      refine aw_aload_n X dX4_dropOldest_40 rfl ?_
      refine aw_mputH X hW (5) (3) (by omega) (by omega) rfl dX4_dropOldest_41 (fun μ hW => ?_)
      refine aw_aload_n X dX4_dropOldest_42 rfl ?_
      refine aw_iconst X (5) dX4_dropOldest_43 rfl ?_
      refine aw_mputU X hW (5) rfl f_X4_30 dX4_dropOldest_44 (fun μ hW => ?_)
      exact aw_vret X hQ dX4_dropOldest_47 ⟨rfl, by rw [rD_5] at hW; exact hW.fin rDrop_i (by decide)⟩
    | succ d ih =>
      intro k μ hk hW
      refine aw_iload_n X dX4_dropOldest_9 rfl ?_
      refine aw_bipush X (6) dX4_dropOldest_10 rfl ?_
      refine aw_icmp_ge_f (tgt := 35) X dX4_dropOldest_12 (by decide) (xn_le (N := 6) (by omega) (by decide) rfl) ?_
      refine aw_aload_n X dX4_dropOldest_15 rfl ?_
      refine aw_mget X hW f_X4_26 rfl dX4_dropOldest_16 ?_
      refine aw_iload_n X dX4_dropOldest_19 rfl ?_
      refine aw_iconst X (1) dX4_dropOldest_20 rfl ?_
      refine aw_isub X dX4_dropOldest_21 ?_
      refine aw_aload_n X dX4_dropOldest_22 rfl ?_
      refine aw_mget X hW f_X4_26 rfl dX4_dropOldest_23 ?_
      refine aw_iload_n X dX4_dropOldest_26 rfl ?_
      refine aw_mhist X hW (k + 1) (by omega) (3 + (k + 1)) rD_at rfl dX4_dropOldest_27 ?_
      refine aw_mputH X hW (k) ((3 + (k + 1))) (by omega) (by omega) (nI_pred k) dX4_dropOldest_28 (fun μ hW => ?_)
      refine aw_iinc X (1) dX4_dropOldest_29 rfl rfl rfl (by decide) ?_
      refine aw_goto (tgt := 9) X dX4_dropOldest_32 (by decide) ?_
      refine aw_sub [some (.ref (o 0)), some (.ref (shs 3 0)), some (.int (nI ((k + 1) + 1)))] ⟨rfl, rfl, congrArg (fun q => some (Value.int q)) (nI_1 (k + 1)), trivial⟩ ?_
      exact ih (k + 1) μ (by omega) (by rw [← rD_s]; exact hW)
  refine aw_sub [some (.ref (o 0)), some (.ref (shs 3 0)), some (.int (nI (0 + 1)))] ⟨rfl, rfl, rfl, trivial⟩ ?_
  exact loop 5 0 μ (by omega) (by rw [rD_0]; exact hW)

set_option maxHeartbeats 1000000 in
set_option maxRecDepth 100000 in
theorem c_X4_recordKept (l : Launch) (U : xU) (lab : Nat → Nat) (μ0 : xH) (shs : Nat → Nat → Nat) (pa o : Nat → Nat) (rs : xR) (p : xV) (un : Nat) (sv : Nat → Int32) (hO0 : ORep U lab μ0 shs pa o rs p un sv) : CtOK l U yX4_recordKept cX4_recordKept 2 none ({ frames := 1, cells := 0, slots := 0, locals := 22 } : Room) [.ref (o 0)] lab μ0 (fun r => shs (rAll un r)) pa o (oRs rs un) p (oUn un) sv := by
  refine Ct.of [some (.ref (o 0)), none] (by decide +kernel) rfl (Nat.le_of_ble_eq_true rfl) (fun K Q X hnm hQ => ?_)
  obtain ⟨μ, hμ, hO⟩ : ∃ μ : xH, μ0 = μ ∧ OR U lab μ0 μ shs pa o rs p un sv := ⟨μ0, rfl, OR.rf hO0⟩
  refine aw_mu hμ ?_
  refine aw_aload_n X dX4_recordKept_0 rfl ?_
  refine aw_oget X hO f_X4_30 rfl dX4_recordKept_1 ?_
  refine aw_bipush X (6) dX4_recordKept_4 rfl ?_
  by_cases eu : un = 6
  · subst eu
    refine aw_icmp_ne_f (tgt := 13) X dX4_recordKept_6 (by decide) rfl ?_
    refine aw_aload_n X dX4_recordKept_9 rfl ?_
    refine aw_cVOK (As := []) X hO (c_X4_dropOldest (kl K) U lab _ _ pa o _ _ _ _ hO.1) s_X4_204 k_X4_dropOldest (by decide) ⟨rfl, rfl⟩ ⟨Nat.zero_le _, Nat.zero_le _⟩ rfl (by exact Nat.le_of_ble_eq_true rfl) rfl dX4_recordKept_10 (fun μ hO => ?_)
    have hW := hO.om
    refine aw_aload_n X dX4_recordKept_13 rfl ?_
    refine aw_mget X hW f_X4_30 rfl dX4_recordKept_14 ?_
    refine aw_if_lt_f (tgt := 29) X dX4_recordKept_17 (by decide) (by decide) ?_
    refine aw_aload_n X dX4_recordKept_20 rfl ?_
    refine aw_mget X hW f_X4_30 rfl dX4_recordKept_21 ?_
    refine aw_bipush X (6) dX4_recordKept_24 rfl ?_
    refine aw_icmp_lt_t (tgt := 30) X dX4_recordKept_26 (by decide) (by decide) ?_
    refine aw_aload_n X dX4_recordKept_30 rfl ?_
    refine aw_mget X hW f_X4_26 rfl dX4_recordKept_31 ?_
    refine aw_aload_n X dX4_recordKept_34 rfl ?_
    refine aw_mget X hW f_X4_30 rfl dX4_recordKept_35 ?_
    refine aw_mhist X hW (5) (by omega) (3 + 5) rfl rfl dX4_recordKept_38 ?_
    refine aw_astore_n X dX4_recordKept_39 rfl (by decide) ?_
    refine aw_aload_n X dX4_recordKept_40 rfl ?_
    refine aw_mget X hW f_X4_26 rfl dX4_recordKept_41 ?_
    refine aw_aload_n X dX4_recordKept_44 rfl ?_
    refine aw_mget X hW f_X4_30 rfl dX4_recordKept_45 ?_
    refine aw_aload_n X dX4_recordKept_48 rfl ?_
    refine aw_mget X hW f_X4_34 rfl dX4_recordKept_49 ?_
    refine aw_mputH X hW (5) (2) (by omega) (by omega) rfl dX4_recordKept_52 (fun μ hW => ?_)
    refine aw_aload_n X dX4_recordKept_53 rfl ?_
    refine aw_aload_n X dX4_recordKept_54 rfl ?_
    refine aw_mputS X hW ((3 + 5)) (by omega) f_X4_34 dX4_recordKept_55 (fun μ hW => ?_)
    refine aw_aload_n X dX4_recordKept_58 rfl ?_
    refine aw_dup X dX4_recordKept_59 rfl ?_
    refine aw_mget X hW f_X4_30 rfl dX4_recordKept_60 ?_
    refine aw_iconst X (1) dX4_recordKept_63 rfl ?_
    refine aw_iadd X dX4_recordKept_64 ?_
    refine aw_mputU X hW (5 + 1) (nI_1 _) f_X4_30 dX4_recordKept_65 (fun μ hW => ?_)
    exact aw_vret X hQ dX4_recordKept_68 ⟨rfl, by have := hW.fin (rRec_i (by decide)) (by decide); exact this⟩
  · have hu5 : un ≤ 5 := by have := hO.un6; omega
    refine aw_icmp_ne_t (tgt := 13) X dX4_recordKept_6 (by decide) (fun q => eu ((nI_eq (by omega) (by decide)).mp q)) ?_
    have hW := hO.om
    refine aw_aload_n X dX4_recordKept_13 rfl ?_
    refine aw_mget X hW f_X4_30 rfl dX4_recordKept_14 ?_
    refine aw_if_lt_f (tgt := 29) X dX4_recordKept_17 (by decide) (nI_pos (by omega)) ?_
    refine aw_aload_n X dX4_recordKept_20 rfl ?_
    refine aw_mget X hW f_X4_30 rfl dX4_recordKept_21 ?_
    refine aw_bipush X (6) dX4_recordKept_24 rfl ?_
    refine aw_icmp_lt_t (tgt := 30) X dX4_recordKept_26 (by decide) (xn_lt (N := 6) (by omega) (by decide) rfl) ?_
    refine aw_aload_n X dX4_recordKept_30 rfl ?_
    refine aw_mget X hW f_X4_26 rfl dX4_recordKept_31 ?_
    refine aw_aload_n X dX4_recordKept_34 rfl ?_
    refine aw_mget X hW f_X4_30 rfl dX4_recordKept_35 ?_
    refine aw_mhist X hW (un) (by omega) (3 + un) rfl rfl dX4_recordKept_38 ?_
    refine aw_astore_n X dX4_recordKept_39 rfl (by decide) ?_
    refine aw_aload_n X dX4_recordKept_40 rfl ?_
    refine aw_mget X hW f_X4_26 rfl dX4_recordKept_41 ?_
    refine aw_aload_n X dX4_recordKept_44 rfl ?_
    refine aw_mget X hW f_X4_30 rfl dX4_recordKept_45 ?_
    refine aw_aload_n X dX4_recordKept_48 rfl ?_
    refine aw_mget X hW f_X4_34 rfl dX4_recordKept_49 ?_
    refine aw_mputH X hW (un) (2) (by omega) (by omega) rfl dX4_recordKept_52 (fun μ hW => ?_)
    refine aw_aload_n X dX4_recordKept_53 rfl ?_
    refine aw_aload_n X dX4_recordKept_54 rfl ?_
    refine aw_mputS X hW ((3 + un)) (by omega) f_X4_34 dX4_recordKept_55 (fun μ hW => ?_)
    refine aw_aload_n X dX4_recordKept_58 rfl ?_
    refine aw_dup X dX4_recordKept_59 rfl ?_
    refine aw_mget X hW f_X4_30 rfl dX4_recordKept_60 ?_
    refine aw_iconst X (1) dX4_recordKept_63 rfl ?_
    refine aw_iadd X dX4_recordKept_64 ?_
    refine aw_mputU X hW (un + 1) (nI_1 _) f_X4_30 dX4_recordKept_65 (fun μ hW => ?_)
    exact aw_vret X hQ dX4_recordKept_68 ⟨rfl, by
      have hf := hW.fin (rRec_i hu5) (by omega)
      have e1 : rAll un = rRec un := by funext r; unfold rAll; rw [if_neg eu]
      have e2 : oUn un = un + 1 := if_neg eu
      unfold oRs
      rw [e1, e2]
      exact hf⟩

set_option maxHeartbeats 1000000 in
set_option maxRecDepth 100000 in
theorem c_X4_recorded (l : Launch) (U : xU) (lab : Nat → Nat) (μ0 : xH) (shs : Nat → Nat → Nat) (pa o : Nat → Nat) (rs : xR) (p : xV) (un : Nat) (sv : Nat → Int32) (hO0 : ORep U lab μ0 shs pa o rs p un sv) (a : Int32) : CtO l U yX4_recorded cX4_recorded 2 (some .int) ({ frames := 2, cells := 0, slots := 0, locals := 43 } : Room) [.ref (o 0), .int a] lab μ0 pa o a (if isErr a = true then rs else oRs rs un) p (if isErr a = true then un else oUn un) sv := by
  refine Ct.of [some (.ref (o 0)), some (.int a)] (by decide +kernel) rfl (Nat.le_of_ble_eq_true rfl) (fun K Q X hnm hQ => ?_)
  have hO := OR.rf hO0
  refine aw_iload_n X dX4_recorded_0 rfl ?_
  refine aw_cSF (As := [.int _]) X (c_X4_isError (kl K) U _ _) s_X4_109 k_X4_isError (by decide) ⟨rfl, rfl⟩ ⟨Nat.zero_le _, Nat.zero_le _⟩ rfl (by exact Nat.le_of_ble_eq_true rfl) dX4_recorded_1 ?_
  refine aw_b_ne (tgt := 11) X dX4_recorded_4 (by decide) (fun c4_1 => ?_) (fun c4_1 => ?_)
  · skip
    refine aw_iload_n X dX4_recorded_11 rfl ?_
    exact aw_iret X hQ dX4_recorded_12 ⟨rfl, _, by rw [if_pos c4_1, if_pos c4_1]; exact hO⟩
  · skip
    refine aw_aload_n X dX4_recorded_7 rfl ?_
    refine aw_cVOK (As := []) X hO (c_X4_recordKept (kl K) U lab _ _ pa o _ _ _ _ hO.1) s_X4_201 k_X4_recordKept (by decide) ⟨rfl, rfl⟩ ⟨Nat.zero_le _, Nat.zero_le _⟩ rfl (by exact Nat.le_of_ble_eq_true rfl) rfl dX4_recorded_8 (fun μ hO => ?_)
    refine aw_iload_n X dX4_recorded_11 rfl ?_
    exact aw_iret X hQ dX4_recorded_12 ⟨rfl, _, by rw [if_neg (by rw [c4_1]; decide), if_neg (by rw [c4_1]; decide)]; exact hO⟩

set_option maxHeartbeats 1000000 in
set_option maxRecDepth 100000 in
theorem c_X4_keepPresent (l : Launch) (U : xU) (lab : Nat → Nat) (μ0 : xH) (shs : Nat → Nat → Nat) (pa o : Nat → Nat) (rs : xR) (p : xV) (un : Nat) (sv : Nat → Int32) (hO0 : ORep U lab μ0 shs pa o rs p un sv) : CtOK l U yX4_keepPresent cX4_keepPresent 1 none ({ frames := 3, cells := 0, slots := 0, locals := 69 } : Room) [.ref (o 0)] lab μ0 shs pa o (rup rs 2 (rs 0)) p un sv := by
  refine Ct.of [some (.ref (o 0))] (by decide +kernel) rfl (Nat.le_of_ble_eq_true rfl) (fun K Q X hnm hQ => ?_)
  have hO := OR.rf hO0
  refine aw_aload_n X dX4_keepPresent_0 rfl ?_
  refine aw_oget X hO f_X4_34 rfl dX4_keepPresent_1 ?_
  refine aw_aload_n X dX4_keepPresent_4 rfl ?_
  refine aw_oget X hO f_X4_10 rfl dX4_keepPresent_5 ?_
  refine aw_cVK (As := [.ref _]) X (hO.jr 2 (by decide)) (c_X1_copyFrom (kl K) U _ (shs 2) _ (hO.J 2 (by decide)) (shs 0) _ (hO.J 0 (by decide)) (hO.ne (by decide) (by decide) (by omega))) s_X4_162 k_X1_copyFrom (by decide) ⟨rfl, rfl⟩ ⟨Nat.zero_le _, Nat.zero_le _⟩ rfl (by exact Nat.le_of_ble_eq_true rfl) (hO.jr 2 (by decide)).g0 rfl dX4_keepPresent_8 (fun μ z_1 ez_1 hJ => ?_)
  have hO := hO.upJ 2 (by decide) hJ
  obtain ⟨rs_1, ers_1⟩ : ∃ q : xR, q = rup rs 2 z_1 := ⟨_, rfl⟩
  rw [← ers_1] at hO
  exact aw_vret X hQ dX4_keepPresent_11 ⟨rfl, by subst ez_1 ers_1; exact hO⟩
